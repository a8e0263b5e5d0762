set_option maxHeartbeats 400000 in
set_option maxRecDepth 100000 in
theorem c_X12_says {ad : Nat → Nat} {r : am_R} (hR : am_rs r) {h : am_H} (what : Nat) (s : Nat) (hV : rf_I (h 323)) (hs : s < rf_S (h 323)) (hL : rf_Lw (h 323)) (hw3 : what < 3)  : am_CM mX12_says 6 0 0 [.ref 322, .int (nI what), .int (nI s)] (am_VV ad) r h (am_pj (some (.int (nI (rf_says (h 323) what s)))) r (fun G => (am_row h 330 (G 330)))) := by
  refine am_CM.of (by decide +kernel) (Nat.le_of_ble_eq_true rfl) (fun X C T => ?_)
  show am_G X (am_VV ad) (0, 0) 0 [(0, .ref 322), (1, .int (nI what)), (2, .int (nI s))] [] r h
  have hM9 : rf_M (h 323) < 17 := hV.1.1.2
  have hS9 : rf_S (h 323) < 11 := hV.1.2.1.2
  have hO9 : rf_O (h 323) < 11 := hV.1.2.2.2
  have h42 : rf_nat ((h 323) 4) < 2 := hV.2.2.2.2.1.2.1.2
  refine am_hp (show h = (am_row h 330 (h 330)) from (am_row_id _ _).symm) ?_
  refine am_aload_n (pc := 0) C dX12_says_0 rfl ?_
  refine am_getR (pc := 1) (j := 323) C dX12_says_1 f12_13 bn_322 sh_322 (rf_322_1 hR) ?_
  refine am_iconstN (pc := 4) (k := 4) C dX12_says_4 ?_
  refine am_iaload (pc := 5) C dX12_says_5 bn_323 sh_323 (vp_in_nI (by omega) (by decide)) ?_
  refine am_top (show (h 323) (nI 4).toNatClampNeg = (h 323) 4 from by rw [nI_clamp (by omega)]) ?_
  refine am_top (show ((h 323) 4) = (nI (rf_nat ((h 323) 4))) from hV.2.2.2.2.1.2.1.1) ?_
  refine am_if_neN (pc := 6) (tgt := 30) C dX12_says_6 (by decide) (by omega) (fun q6 => ?_) (fun q6 => ?_)
  · skip
    have hLn := hL q6
    have hn13 : rf_nat ((h 323) 731) < 13 := hLn.1.2
    have hsb := rf_sayn_le (w := h 323) (what := what) (s := s) (rf_nat ((h 323) 731)) (fun k hk => (hLn.2 k hk).2.1.2)
    refine am_iconstN (pc := 30) (k := 0) C dX12_says_30 ?_
    refine am_istore_n (pc := 31) (ls' := [(0, .ref 322), (1, .int (nI what)), (2, .int (nI s)), (3, .int (nI 0))]) C dX12_says_31 (by decide) rfl ?_
    refine am_iconstN (pc := 32) (k := 0) C dX12_says_32 ?_
    refine am_istore (pc := 33) (ls' := [(0, .ref 322), (1, .int (nI what)), (2, .int (nI s)), (3, .int (nI 0)), (4, .int (nI 0))]) C dX12_says_33 (by decide) rfl ?_
    have L35 : ∀ (j35 i35 : Nat) (g35 : am_H), i35 + j35 = rf_nat ((h 323) 731) → am_G X (am_VV ad) (0, 0) 35 [(0, .ref 322), (1, .int (nI what)), (2, .int (nI s)), (3, .int (nI (rf_sayn (h 323) what s i35))), (4, .int (nI i35))] [] r (am_row h 330 (g35 330)) := by
      intro j35
      induction j35 with
      | zero =>
        intro i35 g35 hi35 
        obtain rfl : i35 = rf_nat ((h 323) 731) := by omega
        refine am_iload (pc := 35) C dX12_says_35 rfl ?_
        refine am_aload_n (pc := 37) C dX12_says_37 rfl ?_
        refine am_getR (pc := 38) (j := 323) C dX12_says_38 f12_13 bn_322 sh_322 (rf_322_1 hR) ?_
        refine am_sipush (pc := 41) (v := nI 731) C dX12_says_41 (by decide) ?_
        refine am_iaload (pc := 44) C dX12_says_44 bn_323 sh_323 (vp_in_nI (by omega) (by decide)) ?_
        refine am_top (show (h 323) (nI 731).toNatClampNeg = (h 323) 731 from by rw [nI_clamp (by omega)]) ?_
        refine am_top (show ((h 323) 731) = (nI (rf_nat ((h 323) 731))) from hLn.1.1) ?_
        refine am_icmp_geN (pc := 45) (tgt := 103) C dX12_says_45 (by decide) (by omega) (by omega) (fun q45 => ?_) (fun q45 => ?_)
        · skip
          refine am_iload_n (pc := 103) C dX12_says_103 rfl ?_
          refine am_iconstN (pc := 104) (k := 2) C dX12_says_104 ?_
          refine am_icmp_neN (pc := 105) (tgt := 112) C dX12_says_105 (by decide) (by omega) (by omega) (fun q105 => ?_) (fun q105 => ?_)
          · skip
            refine am_bipush (pc := 112) (v := nI 100) C dX12_says_112 (by decide) ?_
            refine am_iload_n (pc := 114) C dX12_says_114 rfl ?_
            refine am_callSi (Y := mJ9_min_7cf53) (pc := 115) (st := []) (As := [.int (nI 100), .int (nI (rf_sayn (h 323) what s (rf_nat ((h 323) 731))))]) (x := (rf_min (nI 100) (nI (rf_sayn (h 323) what s (rf_nat ((h 323) 731)))))) (h2 := (am_row h 330 (g35 330))) C dX12_says_115 k12_293 v_J9_min_7cf53 rfl rfl (by decide) (Nat.zero_le _) (Nat.zero_le _) (Nat.le_of_ble_eq_true rfl) (c_J9_min_7cf53 hR (nI 100) (nI (rf_sayn (h 323) what s (rf_nat ((h 323) 731))))) ?_
            exact am_iretij (G := (am_row h 330 (g35 330))) T dX12_says_118 rfl (Nat.le_refl _) (Nat.le_refl _) (by rw [rf_min_N (by omega) (by omega), rf_says, if_neg (by omega), if_neg q105]) rfl rfl
          · skip
            refine am_iconstN (pc := 108) (k := 1) C dX12_says_108 ?_
            refine am_goto (pc := 109) (tgt := 114) C dX12_says_109 (by decide) ?_
            refine am_iload_n (pc := 114) C dX12_says_114 rfl ?_
            refine am_callSi (Y := mJ9_min_7cf53) (pc := 115) (st := []) (As := [.int (nI 1), .int (nI (rf_sayn (h 323) what s (rf_nat ((h 323) 731))))]) (x := (rf_min (nI 1) (nI (rf_sayn (h 323) what s (rf_nat ((h 323) 731)))))) (h2 := (am_row h 330 (g35 330))) C dX12_says_115 k12_293 v_J9_min_7cf53 rfl rfl (by decide) (Nat.zero_le _) (Nat.zero_le _) (Nat.le_of_ble_eq_true rfl) (c_J9_min_7cf53 hR (nI 1) (nI (rf_sayn (h 323) what s (rf_nat ((h 323) 731))))) ?_
            exact am_iretij (G := (am_row h 330 (g35 330))) T dX12_says_118 rfl (Nat.le_refl _) (Nat.le_refl _) (by rw [rf_min_N (by omega) (by omega), rf_says, if_neg (by omega), if_pos q105]) rfl rfl
        · skip
          exact absurd q45 (by omega)
      | succ j35 ih35 =>
        intro i35 g35 hi35 
        have hl35 : i35 < rf_nat ((h 323) 731) := by omega
        obtain ⟨hk0, ha0, -⟩ := hLn.2 i35 hl35
        have hk3 := hk0.2
        have ha3 := ha0.2
        refine am_iload (pc := 35) C dX12_says_35 rfl ?_
        refine am_aload_n (pc := 37) C dX12_says_37 rfl ?_
        refine am_getR (pc := 38) (j := 323) C dX12_says_38 f12_13 bn_322 sh_322 (rf_322_1 hR) ?_
        refine am_sipush (pc := 41) (v := nI 731) C dX12_says_41 (by decide) ?_
        refine am_iaload (pc := 44) C dX12_says_44 bn_323 sh_323 (vp_in_nI (by omega) (by decide)) ?_
        refine am_top (show (h 323) (nI 731).toNatClampNeg = (h 323) 731 from by rw [nI_clamp (by omega)]) ?_
        refine am_top (show ((h 323) 731) = (nI (rf_nat ((h 323) 731))) from hLn.1.1) ?_
        refine am_icmp_geN (pc := 45) (tgt := 103) C dX12_says_45 (by decide) (by omega) (by omega) (fun q45 => ?_) (fun q45 => ?_)
        · skip
          exact absurd q45 (by omega)
        · skip
          refine am_iload_n (pc := 48) C dX12_says_48 rfl ?_
          refine am_aload_n (pc := 49) C dX12_says_49 rfl ?_
          refine am_getR (pc := 50) (j := 323) C dX12_says_50 f12_13 bn_322 sh_322 (rf_322_1 hR) ?_
          refine am_sipush (pc := 53) (v := nI 732) C dX12_says_53 (by decide) ?_
          refine am_iconstN (pc := 56) (k := 4) C dX12_says_56 ?_
          refine am_iload (pc := 57) C dX12_says_57 rfl ?_
          refine am_imulN (pc := 59) C dX12_says_59 ?_
          refine am_iaddN (pc := 60) C dX12_says_60 ?_
          refine am_iaload (pc := 61) C dX12_says_61 bn_323 sh_323 (vp_in_nI (by omega) (by decide)) ?_
          refine am_top (show (h 323) (nI (732 + (4 * i35))).toNatClampNeg = (h 323) (732 + (4 * i35)) from by rw [nI_clamp (by omega)]) ?_
          refine am_top (show ((h 323) (732 + (4 * i35))) = (nI (rf_nat ((h 323) (732 + 4 * i35)))) from hk0.1) ?_
          refine am_iload_n (pc := 62) C dX12_says_62 rfl ?_
          refine am_icmp_neN (pc := 63) (tgt := 94) C dX12_says_63 (by decide) (by omega) (by omega) (fun q63 => ?_) (fun q63 => ?_)
          · skip
            refine am_iconstN (pc := 94) (k := 0) C dX12_says_94 ?_
            refine am_iaddN (pc := 95) C dX12_says_95 ?_
            refine am_istore_n (pc := 96) (ls' := [(0, .ref 322), (1, .int (nI what)), (2, .int (nI s)), (3, .int (nI ((rf_sayn (h 323) what s i35) + 0))), (4, .int (nI i35))]) C dX12_says_96 (by decide) rfl ?_
            refine am_iincN (pc := 97) (ls' := [(0, .ref 322), (1, .int (nI what)), (2, .int (nI s)), (3, .int (nI ((rf_sayn (h 323) what s i35) + 0))), (4, .int (nI (i35 + 1)))]) C dX12_says_97 rfl (am_up1 _) (by decide) rfl ?_
            refine am_goto (pc := 100) (tgt := 35) C dX12_says_100 (by decide) ?_
            refine am_lsv (ls' := [(0, .ref 322), (1, .int (nI what)), (2, .int (nI s)), (3, .int (nI (rf_sayn (h 323) what s (i35 + 1)))), (4, .int (nI (i35 + 1)))]) (by rw [show (nI ((rf_sayn (h 323) what s i35) + 0)) = (nI (rf_sayn (h 323) what s (i35 + 1))) from congrArg nI (by rw [rf_sayn, if_neg (fun z => q63 z.1)])]) ?_
            exact ih35 (i35 + 1) (am_row h 330 (g35 330)) (by omega) 
          · skip
            refine am_aload_n (pc := 66) C dX12_says_66 rfl ?_
            refine am_iload (pc := 67) C dX12_says_67 rfl ?_
            refine am_iload_n (pc := 69) C dX12_says_69 rfl ?_
            refine am_callVij (Y := mX12_holdsLine) (pc := 70) (st := [.int (nI (rf_sayn (h 323) what s i35))]) (As := [.int (nI i35), .int (nI s)]) (x := (am_b (rf_holds (h 323) i35 s))) (H2 := fun GG => (am_row (am_row h 330 (g35 330)) 330 (GG 330))) C dX12_says_70 k12_290 v_X12_holdsLine rfl rfl bn_322 sh_322 ⟨by decide, rfl⟩ (by decide) (Nat.zero_le _) (Nat.zero_le _) (Nat.le_of_ble_eq_true rfl) (c_X12_holdsLine hR i35 s (show rf_I (h 323) from hV) (show s < rf_S (h 323) from hs) (show i35 < 12 from (by omega)) (show rf_Ll (h 323) i35 from (hLn.2 i35 hl35))) (fun g70_6 => ?_)
            refine am_hp (show (am_row (am_row h 330 (g35 330)) 330 (g70_6 330)) = (am_row h 330 (g70_6 330)) from am_row_s0) ?_
            refine am_if_eqB (pc := 73) (tgt := 94) C dX12_says_73 (by decide) (fun q73 => ?_) (fun q73 => ?_)
            · skip
              refine am_iconstN (pc := 94) (k := 0) C dX12_says_94 ?_
              refine am_iaddN (pc := 95) C dX12_says_95 ?_
              refine am_istore_n (pc := 96) (ls' := [(0, .ref 322), (1, .int (nI what)), (2, .int (nI s)), (3, .int (nI ((rf_sayn (h 323) what s i35) + 0))), (4, .int (nI i35))]) C dX12_says_96 (by decide) rfl ?_
              refine am_iincN (pc := 97) (ls' := [(0, .ref 322), (1, .int (nI what)), (2, .int (nI s)), (3, .int (nI ((rf_sayn (h 323) what s i35) + 0))), (4, .int (nI (i35 + 1)))]) C dX12_says_97 rfl (am_up1 _) (by decide) rfl ?_
              refine am_goto (pc := 100) (tgt := 35) C dX12_says_100 (by decide) ?_
              refine am_lsv (ls' := [(0, .ref 322), (1, .int (nI what)), (2, .int (nI s)), (3, .int (nI (rf_sayn (h 323) what s (i35 + 1)))), (4, .int (nI (i35 + 1)))]) (by rw [show (nI ((rf_sayn (h 323) what s i35) + 0)) = (nI (rf_sayn (h 323) what s (i35 + 1))) from congrArg nI (by rw [rf_sayn, if_neg (fun z => Bool.false_ne_true (q73.symm.trans z.2))])]) ?_
              exact ih35 (i35 + 1) (am_row h 330 (g70_6 330)) (by omega) 
            · skip
              refine am_aload_n (pc := 76) C dX12_says_76 rfl ?_
              refine am_getR (pc := 77) (j := 323) C dX12_says_77 f12_13 bn_322 sh_322 (rf_322_1 hR) ?_
              refine am_sipush (pc := 80) (v := nI 732) C dX12_says_80 (by decide) ?_
              refine am_iconstN (pc := 83) (k := 4) C dX12_says_83 ?_
              refine am_iload (pc := 84) C dX12_says_84 rfl ?_
              refine am_imulN (pc := 86) C dX12_says_86 ?_
              refine am_iaddN (pc := 87) C dX12_says_87 ?_
              refine am_iconstN (pc := 88) (k := 1) C dX12_says_88 ?_
              refine am_iaddN (pc := 89) C dX12_says_89 ?_
              refine am_iaload (pc := 90) C dX12_says_90 bn_323 sh_323 (vp_in_nI (by omega) (by decide)) ?_
              refine am_top (show (h 323) (nI ((732 + (4 * i35)) + 1)).toNatClampNeg = (h 323) ((732 + (4 * i35)) + 1) from by rw [nI_clamp (by omega)]) ?_
              refine am_top (show ((h 323) ((732 + (4 * i35)) + 1)) = (nI (rf_nat ((h 323) (732 + 4 * i35 + 1)))) from ha0.1) ?_
              refine am_goto (pc := 91) (tgt := 95) C dX12_says_91 (by decide) ?_
              refine am_iaddN (pc := 95) C dX12_says_95 ?_
              refine am_istore_n (pc := 96) (ls' := [(0, .ref 322), (1, .int (nI what)), (2, .int (nI s)), (3, .int (nI ((rf_sayn (h 323) what s i35) + (rf_nat ((h 323) (732 + 4 * i35 + 1)))))), (4, .int (nI i35))]) C dX12_says_96 (by decide) rfl ?_
              refine am_iincN (pc := 97) (ls' := [(0, .ref 322), (1, .int (nI what)), (2, .int (nI s)), (3, .int (nI ((rf_sayn (h 323) what s i35) + (rf_nat ((h 323) (732 + 4 * i35 + 1)))))), (4, .int (nI (i35 + 1)))]) C dX12_says_97 rfl (am_up1 _) (by decide) rfl ?_
              refine am_goto (pc := 100) (tgt := 35) C dX12_says_100 (by decide) ?_
              refine am_lsv (ls' := [(0, .ref 322), (1, .int (nI what)), (2, .int (nI s)), (3, .int (nI (rf_sayn (h 323) what s (i35 + 1)))), (4, .int (nI (i35 + 1)))]) (by rw [show (nI ((rf_sayn (h 323) what s i35) + (rf_nat ((h 323) (732 + 4 * i35 + 1))))) = (nI (rf_sayn (h 323) what s (i35 + 1))) from congrArg nI (by rw [rf_sayn, if_pos ⟨q63, q73⟩])]) ?_
              exact ih35 (i35 + 1) (am_row h 330 (g70_6 330)) (by omega) 
    exact L35 (rf_nat ((h 323) 731)) 0 (am_row h 330 (h 330)) (by omega) 
  · skip
    refine am_iload_n (pc := 9) C dX12_says_9 rfl ?_
    refine am_if_neN (pc := 10) (tgt := 18) C dX12_says_10 (by decide) (by omega) (fun q10 => ?_) (fun q10 => ?_)
    · skip
      refine am_iload_n (pc := 18) C dX12_says_18 rfl ?_
      refine am_iconstN (pc := 19) (k := 1) C dX12_says_19 ?_
      refine am_icmp_neN (pc := 20) (tgt := 28) C dX12_says_20 (by decide) (by omega) (by omega) (fun q20 => ?_) (fun q20 => ?_)
      · skip
        refine am_iconstN (pc := 28) (k := 1) C dX12_says_28 ?_
        exact am_iretij (G := (am_row h 330 (h 330))) T dX12_says_29 rfl (Nat.le_refl _) (Nat.le_refl _) (by rw [rf_says, if_pos q6, if_neg (by omega), if_neg q20]) rfl rfl
      · skip
        refine am_bipush (pc := 23) (v := nI 20) C dX12_says_23 (by decide) ?_
        refine am_goto (pc := 25) (tgt := 29) C dX12_says_25 (by decide) ?_
        exact am_iretij (G := (am_row h 330 (h 330))) T dX12_says_29 rfl (Nat.le_refl _) (Nat.le_refl _) (by rw [rf_says, if_pos q6, if_neg (by omega), if_pos q20]) rfl rfl
    · skip
      refine am_bipush (pc := 13) (v := nI 50) C dX12_says_13 (by decide) ?_
      refine am_goto (pc := 15) (tgt := 29) C dX12_says_15 (by decide) ?_
      exact am_iretij (G := (am_row h 330 (h 330))) T dX12_says_29 rfl (Nat.le_refl _) (Nat.le_refl _) (by rw [rf_says, if_pos q6, if_pos q10]) rfl rfl

set_option maxHeartbeats 400000 in
set_option maxRecDepth 100000 in
theorem c_X12_hits {ad : Nat → Nat} {r : am_R} (hR : am_rs r) {h : am_H} (b : Nat) (s : Nat) (good : Bool) (hV : rf_I (h 323)) (hb : b < rf_S (h 323)) (hs : s < rf_S (h 323)) (hk0 : 0 < rf_kn (h 323) s)  : am_CM mX12_hits 4 0 0 [.ref 322, .int (nI b), .int (nI s), .int (am_b good)] (am_VV ad) r h (am_po (some (.int (nI (rf_takes (h 323) s good - 1)))) r (am_row h 323 (rf_hit (h 323) b s good))) := by
  refine am_CM.of (by decide +kernel) (Nat.le_of_ble_eq_true rfl) (fun X C T => ?_)
  show am_G X (am_VV ad) (0, 0) 0 [(0, .ref 322), (1, .int (nI b)), (2, .int (nI s)), (3, .int (am_b good))] [] r h
  have hM9 : rf_M (h 323) < 17 := hV.1.1.2
  have hS9 : rf_S (h 323) < 11 := hV.1.2.1.2
  have hO9 : rf_O (h 323) < 11 := hV.1.2.2.2
  have hkn : rf_kn (h 323) s < 13 := (hV.2.1 s hs).2.2.2.2.1.2
  obtain ⟨ht0, htM, htq⟩ := rf_takes_ok (g := good) hV hs hk0
  obtain ⟨hp1, -, -⟩ := rf_pos_spec htq
  have hI1 := rf_I_lose hV hs hp1
  have hs1 : s < rf_S (rf_lose (h 323) s (rf_takes (h 323) s good - 1)) := by rw [rf_S, rf_lose_out hp1 hkn (by omega)]; exact hs
  refine am_aload_n (pc := 0) C dX12_hits_0 rfl ?_
  refine am_iload_n (pc := 1) C dX12_hits_1 rfl ?_
  refine am_iload_n (pc := 2) C dX12_hits_2 rfl ?_
  refine am_callVi (Y := mX12_takes) (pc := 3) (st := []) (As := [.int (nI s), .int (am_b good)]) (x := (am_oi (rf_takes (h 323) s good))) (h2 := h) C dX12_hits_3 k12_353 v_X12_takes rfl rfl bn_322 sh_322 ⟨by decide, rfl⟩ (by decide) (Nat.zero_le _) (Nat.zero_le _) (Nat.le_of_ble_eq_true rfl) (c_X12_takes hR s good hV hs hk0) ?_
  refine am_istore (pc := 6) (ls' := [(0, .ref 322), (1, .int (nI b)), (2, .int (nI s)), (3, .int (am_b good)), (4, .int (am_oi (rf_takes (h 323) s good)))]) C dX12_hits_6 (by decide) rfl ?_
  refine am_lsv (ls' := [(0, .ref 322), (1, .int (nI b)), (2, .int (nI s)), (3, .int (am_b good)), (4, .int (nI (rf_takes (h 323) s good - 1)))]) (by rw [show (am_oi (rf_takes (h 323) s good)) = (nI (rf_takes (h 323) s good - 1)) from am_oi_p ht0]) ?_
  refine am_aload_n (pc := 8) C dX12_hits_8 rfl ?_
  refine am_iload_n (pc := 9) C dX12_hits_9 rfl ?_
  refine am_iload (pc := 10) C dX12_hits_10 rfl ?_
  refine am_callVv (Y := mX12_loses) (pc := 12) (st := []) (As := [.int (nI s), .int (nI (rf_takes (h 323) s good - 1))]) (h2 := (am_row h 323 (rf_lose (h 323) s (rf_takes (h 323) s good - 1)))) C dX12_hits_12 k12_357 v_X12_loses rfl rfl bn_322 sh_322 ⟨by decide, rfl⟩ (by decide) (Nat.zero_le _) (Nat.zero_le _) (Nat.le_of_ble_eq_true rfl) (c_X12_loses hR s (rf_takes (h 323) s good - 1) (show rf_I (h 323) from hV) (show s < rf_S (h 323) from hs) (show ∃ q, q < rf_kn (h 323) s ∧ rf_of (h 323) s (10 + q) = nI (rf_takes (h 323) s good - 1) from htq)) ?_
  refine am_aload_n (pc := 15) C dX12_hits_15 rfl ?_
  refine am_iload (pc := 16) C dX12_hits_16 rfl ?_
  refine am_aload_n (pc := 18) C dX12_hits_18 rfl ?_
  refine am_iload_n (pc := 19) C dX12_hits_19 rfl ?_
  refine am_callVi (Y := mX12_placeOf) (pc := 20) (st := [.int (nI (rf_takes (h 323) s good - 1)), .ref 322]) (As := [.int (nI s)]) (x := (rf_pl (rf_lose (h 323) s (rf_takes (h 323) s good - 1)) s)) (h2 := (am_row h 323 (rf_lose (h 323) s (rf_takes (h 323) s good - 1)))) C dX12_hits_20 k12_272 v_X12_placeOf rfl rfl bn_322 sh_322 ⟨by decide, rfl⟩ (by decide) (Nat.zero_le _) (Nat.zero_le _) (Nat.le_of_ble_eq_true rfl) (c_X12_placeOf hR s (show s < 11 from (by omega)) (show rf_Is (rf_lose (h 323) s (rf_takes (h 323) s good - 1)) s from (hI1.2.1 s hs1))) ?_
  refine am_iload_n (pc := 23) C dX12_hits_23 rfl ?_
  refine am_callVv (Y := mX12_lies) (pc := 24) (st := []) (As := [.int (nI (rf_takes (h 323) s good - 1)), .int (rf_pl (rf_lose (h 323) s (rf_takes (h 323) s good - 1)) s), .int (nI s)]) (h2 := (am_row (am_row h 323 (rf_lose (h 323) s (rf_takes (h 323) s good - 1))) 323 (rf_lie (rf_lose (h 323) s (rf_takes (h 323) s good - 1)) (nI (rf_takes (h 323) s good - 1)) (rf_pl (rf_lose (h 323) s (rf_takes (h 323) s good - 1)) s) (nI s)))) C dX12_hits_24 k12_360 v_X12_lies rfl rfl bn_322 sh_322 ⟨by decide, rfl⟩ (by decide) (Nat.zero_le _) (Nat.zero_le _) (Nat.le_of_ble_eq_true rfl) (c_X12_lies hR (nI (rf_takes (h 323) s good - 1)) (rf_pl (rf_lose (h 323) s (rf_takes (h 323) s good - 1)) s) (nI s) (show rf_n ((rf_lose (h 323) s (rf_takes (h 323) s good - 1)) 6) 41 from hI1.2.2.2.2.1.2.2.1)) ?_
  refine am_hp (show (am_row (am_row h 323 (rf_lose (h 323) s (rf_takes (h 323) s good - 1))) 323 (rf_lie (rf_lose (h 323) s (rf_takes (h 323) s good - 1)) (nI (rf_takes (h 323) s good - 1)) (rf_pl (rf_lose (h 323) s (rf_takes (h 323) s good - 1)) s) (nI s))) = (am_row h 323 (rf_lie (rf_lose (h 323) s (rf_takes (h 323) s good - 1)) (nI (rf_takes (h 323) s good - 1)) (rf_pl (rf_lose (h 323) s (rf_takes (h 323) s good - 1)) s) (nI s))) from am_row_s0) ?_
  obtain ⟨W2, he_W2⟩ : ∃ z : rf_W, z = rf_lie (rf_lose (h 323) s (rf_takes (h 323) s good - 1)) (nI (rf_takes (h 323) s good - 1)) (rf_pl (rf_lose (h 323) s (rf_takes (h 323) s good - 1)) s) (nI s) := ⟨_, rfl⟩
  refine am_hp (show (am_row h 323 (rf_lie (rf_lose (h 323) s (rf_takes (h 323) s good - 1)) (nI (rf_takes (h 323) s good - 1)) (rf_pl (rf_lose (h 323) s (rf_takes (h 323) s good - 1)) s) (nI s))) = (am_row h 323 W2) from by rw [he_W2]) ?_
  refine am_aload_n (pc := 27) C dX12_hits_27 rfl ?_
  refine am_getR (pc := 28) (j := 323) C dX12_hits_28 f12_13 bn_322 sh_322 (rf_322_1 hR) ?_
  refine am_bipush (pc := 31) (v := nI 7) C dX12_hits_31 (by decide) ?_
  refine am_dup2 (pc := 33) C dX12_hits_33 rfl rfl ?_
  refine am_iaload (pc := 34) C dX12_hits_34 bn_323 sh_323 (vp_in_nI (by omega) (by decide)) ?_
  refine am_top (show W2 (nI 7).toNatClampNeg = W2 7 from by rw [nI_clamp (by omega)]) ?_
  refine am_iconstN (pc := 35) (k := 1) C dX12_hits_35 ?_
  refine am_iadd (pc := 36) C dX12_hits_36 ?_
  refine am_iastore (pc := 37) C dX12_hits_37 bn_323 sh_323 (vp_in_nI (by omega) (by decide)) ?_
  refine am_hp (show am_up (am_row h 323 W2) 323 (nI 7).toNatClampNeg ((W2 7) + (nI 1)) = am_row (am_row h 323 W2) 323 (upd W2 7 ((W2 7) + (nI 1))) from by rw [nI_clamp (by omega)]; exact am_up_rw _ _ _ _) ?_
  refine am_hp (show am_row (am_row h 323 W2) 323 (upd W2 7 ((W2 7) + (nI 1))) = (am_row h 323 (upd W2 7 ((W2 7) + (nI 1)))) from am_row_s0) ?_
  refine am_sipush (pc := 38) (v := nI 299) C dX12_hits_38 (by decide) ?_
  refine am_istore (pc := 41) (ls' := [(0, .ref 322), (1, .int (nI b)), (2, .int (nI s)), (3, .int (am_b good)), (4, .int (nI (rf_takes (h 323) s good - 1))), (5, .int (nI 299))]) C dX12_hits_41 (by decide) rfl ?_
  have L43 : ∀ (j43 : Nat) , (hj5 : j43 ≤ 295) → am_G X (am_VV ad) (0, 0) 43 [(0, .ref 322), (1, .int (nI b)), (2, .int (nI s)), (3, .int (am_b good)), (4, .int (nI (rf_takes (h 323) s good - 1))), (5, .int (nI (j43 + 4)))] [] r (am_row h 323 (rf_sr (upd W2 7 (W2 7 + nI 1)) j43)) := by
    intro j43
    induction j43 with
    | zero =>
      intro  hj5
      refine am_iload (pc := 43) C dX12_hits_43 rfl ?_
      refine am_iconstN (pc := 45) (k := 5) C dX12_hits_45 ?_
      refine am_icmp_ltN (pc := 46) (tgt := 79) C dX12_hits_46 (by decide) (by omega) (by omega) (fun q46 => ?_) (fun q46 => ?_)
      · skip
        refine am_aload_n (pc := 79) C dX12_hits_79 rfl ?_
        refine am_getR (pc := 80) (j := 323) C dX12_hits_80 f12_13 bn_322 sh_322 (rf_322_1 hR) ?_
        refine am_sipush (pc := 83) (v := nI 431) C dX12_hits_83 (by decide) ?_
        refine am_aload_n (pc := 86) C dX12_hits_86 rfl ?_
        refine am_getR (pc := 87) (j := 323) C dX12_hits_87 f12_13 bn_322 sh_322 (rf_322_1 hR) ?_
        refine am_iconstN (pc := 90) (k := 5) C dX12_hits_90 ?_
        refine am_iaload (pc := 91) C dX12_hits_91 bn_323 sh_323 (vp_in_nI (by omega) (by decide)) ?_
        refine am_top (show (rf_sr (upd W2 7 (W2 7 + nI 1)) 0) (nI 5).toNatClampNeg = (rf_sr (upd W2 7 (W2 7 + nI 1)) 0) 5 from by rw [nI_clamp (by omega)]) ?_
        refine am_top (show ((rf_sr (upd W2 7 (W2 7 + nI 1)) 0) 5) = (W2 5) from rfl) ?_
        refine am_iastore (pc := 92) C dX12_hits_92 bn_323 sh_323 (vp_in_nI (by omega) (by decide)) ?_
        refine am_hp (show am_up (am_row h 323 (rf_sr (upd W2 7 (W2 7 + nI 1)) 0)) 323 (nI 431).toNatClampNeg (W2 5) = am_row (am_row h 323 (rf_sr (upd W2 7 (W2 7 + nI 1)) 0)) 323 (upd (rf_sr (upd W2 7 (W2 7 + nI 1)) 0) 431 (W2 5)) from by rw [nI_clamp (by omega)]; exact am_up_rw _ _ _ _) ?_
        refine am_hp (show am_row (am_row h 323 (rf_sr (upd W2 7 (W2 7 + nI 1)) 0)) 323 (upd (rf_sr (upd W2 7 (W2 7 + nI 1)) 0) 431 (W2 5)) = (am_row h 323 (upd (rf_sr (upd W2 7 (W2 7 + nI 1)) 0) 431 (W2 5))) from am_row_s0) ?_
        refine am_aload_n (pc := 93) C dX12_hits_93 rfl ?_
        refine am_getR (pc := 94) (j := 323) C dX12_hits_94 f12_13 bn_322 sh_322 (rf_322_1 hR) ?_
        refine am_sipush (pc := 97) (v := nI 432) C dX12_hits_97 (by decide) ?_
        refine am_iload_n (pc := 100) C dX12_hits_100 rfl ?_
        refine am_iastore (pc := 101) C dX12_hits_101 bn_323 sh_323 (vp_in_nI (by omega) (by decide)) ?_
        refine am_hp (show am_up (am_row h 323 (upd (rf_sr (upd W2 7 (W2 7 + nI 1)) 0) 431 (W2 5))) 323 (nI 432).toNatClampNeg (nI b) = am_row (am_row h 323 (upd (rf_sr (upd W2 7 (W2 7 + nI 1)) 0) 431 (W2 5))) 323 (upd (upd (rf_sr (upd W2 7 (W2 7 + nI 1)) 0) 431 (W2 5)) 432 (nI b)) from by rw [nI_clamp (by omega)]; exact am_up_rw _ _ _ _) ?_
        refine am_hp (show am_row (am_row h 323 (upd (rf_sr (upd W2 7 (W2 7 + nI 1)) 0) 431 (W2 5))) 323 (upd (upd (rf_sr (upd W2 7 (W2 7 + nI 1)) 0) 431 (W2 5)) 432 (nI b)) = (am_row h 323 (upd (upd (rf_sr (upd W2 7 (W2 7 + nI 1)) 0) 431 (W2 5)) 432 (nI b))) from am_row_s0) ?_
        refine am_aload_n (pc := 102) C dX12_hits_102 rfl ?_
        refine am_getR (pc := 103) (j := 323) C dX12_hits_103 f12_13 bn_322 sh_322 (rf_322_1 hR) ?_
        refine am_sipush (pc := 106) (v := nI 433) C dX12_hits_106 (by decide) ?_
        refine am_iload_n (pc := 109) C dX12_hits_109 rfl ?_
        refine am_iastore (pc := 110) C dX12_hits_110 bn_323 sh_323 (vp_in_nI (by omega) (by decide)) ?_
        refine am_hp (show am_up (am_row h 323 (upd (upd (rf_sr (upd W2 7 (W2 7 + nI 1)) 0) 431 (W2 5)) 432 (nI b))) 323 (nI 433).toNatClampNeg (nI s) = am_row (am_row h 323 (upd (upd (rf_sr (upd W2 7 (W2 7 + nI 1)) 0) 431 (W2 5)) 432 (nI b))) 323 (upd (upd (upd (rf_sr (upd W2 7 (W2 7 + nI 1)) 0) 431 (W2 5)) 432 (nI b)) 433 (nI s)) from by rw [nI_clamp (by omega)]; exact am_up_rw _ _ _ _) ?_
        refine am_hp (show am_row (am_row h 323 (upd (upd (rf_sr (upd W2 7 (W2 7 + nI 1)) 0) 431 (W2 5)) 432 (nI b))) 323 (upd (upd (upd (rf_sr (upd W2 7 (W2 7 + nI 1)) 0) 431 (W2 5)) 432 (nI b)) 433 (nI s)) = (am_row h 323 (upd (upd (upd (rf_sr (upd W2 7 (W2 7 + nI 1)) 0) 431 (W2 5)) 432 (nI b)) 433 (nI s))) from am_row_s0) ?_
        refine am_aload_n (pc := 111) C dX12_hits_111 rfl ?_
        refine am_getR (pc := 112) (j := 323) C dX12_hits_112 f12_13 bn_322 sh_322 (rf_322_1 hR) ?_
        refine am_sipush (pc := 115) (v := nI 434) C dX12_hits_115 (by decide) ?_
        refine am_iload (pc := 118) C dX12_hits_118 rfl ?_
        refine am_iastore (pc := 120) C dX12_hits_120 bn_323 sh_323 (vp_in_nI (by omega) (by decide)) ?_
        refine am_hp (show am_up (am_row h 323 (upd (upd (upd (rf_sr (upd W2 7 (W2 7 + nI 1)) 0) 431 (W2 5)) 432 (nI b)) 433 (nI s))) 323 (nI 434).toNatClampNeg (nI (rf_takes (h 323) s good - 1)) = am_row (am_row h 323 (upd (upd (upd (rf_sr (upd W2 7 (W2 7 + nI 1)) 0) 431 (W2 5)) 432 (nI b)) 433 (nI s))) 323 (upd (upd (upd (upd (rf_sr (upd W2 7 (W2 7 + nI 1)) 0) 431 (W2 5)) 432 (nI b)) 433 (nI s)) 434 (nI (rf_takes (h 323) s good - 1))) from by rw [nI_clamp (by omega)]; exact am_up_rw _ _ _ _) ?_
        refine am_hp (show am_row (am_row h 323 (upd (upd (upd (rf_sr (upd W2 7 (W2 7 + nI 1)) 0) 431 (W2 5)) 432 (nI b)) 433 (nI s))) 323 (upd (upd (upd (upd (rf_sr (upd W2 7 (W2 7 + nI 1)) 0) 431 (W2 5)) 432 (nI b)) 433 (nI s)) 434 (nI (rf_takes (h 323) s good - 1))) = (am_row h 323 (upd (upd (upd (upd (rf_sr (upd W2 7 (W2 7 + nI 1)) 0) 431 (W2 5)) 432 (nI b)) 433 (nI s)) 434 (nI (rf_takes (h 323) s good - 1)))) from am_row_s0) ?_
        refine am_aload_n (pc := 121) C dX12_hits_121 rfl ?_
        refine am_getR (pc := 122) (j := 323) C dX12_hits_122 f12_13 bn_322 sh_322 (rf_322_1 hR) ?_
        refine am_sipush (pc := 125) (v := nI 435) C dX12_hits_125 (by decide) ?_
        refine am_iload_n (pc := 128) C dX12_hits_128 rfl ?_
        refine am_if_eqB (pc := 129) (tgt := 136) C dX12_hits_129 (by decide) (fun q129 => ?_) (fun q129 => ?_)
        · skip
          refine am_iconstN (pc := 136) (k := 0) C dX12_hits_136 ?_
          refine am_top (show (nI 0) = (am_b good) from (by rw [q129]; rfl)) ?_
          refine am_iastore (pc := 137) C dX12_hits_137 bn_323 sh_323 (vp_in_nI (by omega) (by decide)) ?_
          refine am_hp (show am_up (am_row h 323 (upd (upd (upd (upd (rf_sr (upd W2 7 (W2 7 + nI 1)) 0) 431 (W2 5)) 432 (nI b)) 433 (nI s)) 434 (nI (rf_takes (h 323) s good - 1)))) 323 (nI 435).toNatClampNeg (am_b good) = am_row (am_row h 323 (upd (upd (upd (upd (rf_sr (upd W2 7 (W2 7 + nI 1)) 0) 431 (W2 5)) 432 (nI b)) 433 (nI s)) 434 (nI (rf_takes (h 323) s good - 1)))) 323 (upd (upd (upd (upd (upd (rf_sr (upd W2 7 (W2 7 + nI 1)) 0) 431 (W2 5)) 432 (nI b)) 433 (nI s)) 434 (nI (rf_takes (h 323) s good - 1))) 435 (am_b good)) from by rw [nI_clamp (by omega)]; exact am_up_rw _ _ _ _) ?_
          refine am_hp (show am_row (am_row h 323 (upd (upd (upd (upd (rf_sr (upd W2 7 (W2 7 + nI 1)) 0) 431 (W2 5)) 432 (nI b)) 433 (nI s)) 434 (nI (rf_takes (h 323) s good - 1)))) 323 (upd (upd (upd (upd (upd (rf_sr (upd W2 7 (W2 7 + nI 1)) 0) 431 (W2 5)) 432 (nI b)) 433 (nI s)) 434 (nI (rf_takes (h 323) s good - 1))) 435 (am_b good)) = (am_row h 323 (upd (upd (upd (upd (upd (rf_sr (upd W2 7 (W2 7 + nI 1)) 0) 431 (W2 5)) 432 (nI b)) 433 (nI s)) 434 (nI (rf_takes (h 323) s good - 1))) 435 (am_b good))) from am_row_s0) ?_
          refine am_aload_n (pc := 138) C dX12_hits_138 rfl ?_
          refine am_getR (pc := 139) (j := 323) C dX12_hits_139 f12_13 bn_322 sh_322 (rf_322_1 hR) ?_
          refine am_bipush (pc := 142) (v := nI 9) C dX12_hits_142 (by decide) ?_
          refine am_bipush (pc := 144) (v := nI 60) C dX12_hits_144 (by decide) ?_
          refine am_aload_n (pc := 146) C dX12_hits_146 rfl ?_
          refine am_getR (pc := 147) (j := 323) C dX12_hits_147 f12_13 bn_322 sh_322 (rf_322_1 hR) ?_
          refine am_bipush (pc := 150) (v := nI 9) C dX12_hits_150 (by decide) ?_
          refine am_iaload (pc := 152) C dX12_hits_152 bn_323 sh_323 (vp_in_nI (by omega) (by decide)) ?_
          refine am_top (show (upd (upd (upd (upd (upd (rf_sr (upd W2 7 (W2 7 + nI 1)) 0) 431 (W2 5)) 432 (nI b)) 433 (nI s)) 434 (nI (rf_takes (h 323) s good - 1))) 435 (am_b good)) (nI 9).toNatClampNeg = (upd (upd (upd (upd (upd (rf_sr (upd W2 7 (W2 7 + nI 1)) 0) 431 (W2 5)) 432 (nI b)) 433 (nI s)) 434 (nI (rf_takes (h 323) s good - 1))) 435 (am_b good)) 9 from by rw [nI_clamp (by omega)]) ?_
          refine am_iconstN (pc := 153) (k := 1) C dX12_hits_153 ?_
          refine am_iadd (pc := 154) C dX12_hits_154 ?_
          refine am_top (show (((upd (upd (upd (upd (upd (rf_sr (upd W2 7 (W2 7 + nI 1)) 0) 431 (W2 5)) 432 (nI b)) 433 (nI s)) 434 (nI (rf_takes (h 323) s good - 1))) 435 (am_b good)) 9) + (nI 1)) = (W2 9 + nI 1) from rfl) ?_
          refine am_callSi (Y := mJ9_min_7cf53) (pc := 155) (st := [.int (nI 9), .ref 323]) (As := [.int (nI 60), .int (W2 9 + nI 1)]) (x := (rf_min (nI 60) (W2 9 + nI 1))) (h2 := (am_row h 323 (upd (upd (upd (upd (upd (rf_sr (upd W2 7 (W2 7 + nI 1)) 0) 431 (W2 5)) 432 (nI b)) 433 (nI s)) 434 (nI (rf_takes (h 323) s good - 1))) 435 (am_b good)))) C dX12_hits_155 k12_293 v_J9_min_7cf53 rfl rfl (by decide) (Nat.zero_le _) (Nat.zero_le _) (Nat.le_of_ble_eq_true rfl) (c_J9_min_7cf53 hR (nI 60) (W2 9 + nI 1)) ?_
          refine am_iastore (pc := 158) C dX12_hits_158 bn_323 sh_323 (vp_in_nI (by omega) (by decide)) ?_
          refine am_hp (show am_up (am_row h 323 (upd (upd (upd (upd (upd (rf_sr (upd W2 7 (W2 7 + nI 1)) 0) 431 (W2 5)) 432 (nI b)) 433 (nI s)) 434 (nI (rf_takes (h 323) s good - 1))) 435 (am_b good))) 323 (nI 9).toNatClampNeg (rf_min (nI 60) (W2 9 + nI 1)) = am_row (am_row h 323 (upd (upd (upd (upd (upd (rf_sr (upd W2 7 (W2 7 + nI 1)) 0) 431 (W2 5)) 432 (nI b)) 433 (nI s)) 434 (nI (rf_takes (h 323) s good - 1))) 435 (am_b good))) 323 (upd (upd (upd (upd (upd (upd (rf_sr (upd W2 7 (W2 7 + nI 1)) 0) 431 (W2 5)) 432 (nI b)) 433 (nI s)) 434 (nI (rf_takes (h 323) s good - 1))) 435 (am_b good)) 9 (rf_min (nI 60) (W2 9 + nI 1))) from by rw [nI_clamp (by omega)]; exact am_up_rw _ _ _ _) ?_
          refine am_hp (show am_row (am_row h 323 (upd (upd (upd (upd (upd (rf_sr (upd W2 7 (W2 7 + nI 1)) 0) 431 (W2 5)) 432 (nI b)) 433 (nI s)) 434 (nI (rf_takes (h 323) s good - 1))) 435 (am_b good))) 323 (upd (upd (upd (upd (upd (upd (rf_sr (upd W2 7 (W2 7 + nI 1)) 0) 431 (W2 5)) 432 (nI b)) 433 (nI s)) 434 (nI (rf_takes (h 323) s good - 1))) 435 (am_b good)) 9 (rf_min (nI 60) (W2 9 + nI 1))) = (am_row h 323 (upd (upd (upd (upd (upd (upd (rf_sr (upd W2 7 (W2 7 + nI 1)) 0) 431 (W2 5)) 432 (nI b)) 433 (nI s)) 434 (nI (rf_takes (h 323) s good - 1))) 435 (am_b good)) 9 (rf_min (nI 60) (W2 9 + nI 1)))) from am_row_s0) ?_
          refine am_iload (pc := 159) C dX12_hits_159 rfl ?_
          exact am_ireti T dX12_hits_161 rfl (Nat.le_refl _) (Nat.le_refl _) rfl rfl (by rw [rf_hit, ← he_W2]; rfl)
        · skip
          refine am_iconstN (pc := 132) (k := 1) C dX12_hits_132 ?_
          refine am_goto (pc := 133) (tgt := 137) C dX12_hits_133 (by decide) ?_
          refine am_top (show (nI 1) = (am_b good) from (by rw [q129]; rfl)) ?_
          refine am_iastore (pc := 137) C dX12_hits_137 bn_323 sh_323 (vp_in_nI (by omega) (by decide)) ?_
          refine am_hp (show am_up (am_row h 323 (upd (upd (upd (upd (rf_sr (upd W2 7 (W2 7 + nI 1)) 0) 431 (W2 5)) 432 (nI b)) 433 (nI s)) 434 (nI (rf_takes (h 323) s good - 1)))) 323 (nI 435).toNatClampNeg (am_b good) = am_row (am_row h 323 (upd (upd (upd (upd (rf_sr (upd W2 7 (W2 7 + nI 1)) 0) 431 (W2 5)) 432 (nI b)) 433 (nI s)) 434 (nI (rf_takes (h 323) s good - 1)))) 323 (upd (upd (upd (upd (upd (rf_sr (upd W2 7 (W2 7 + nI 1)) 0) 431 (W2 5)) 432 (nI b)) 433 (nI s)) 434 (nI (rf_takes (h 323) s good - 1))) 435 (am_b good)) from by rw [nI_clamp (by omega)]; exact am_up_rw _ _ _ _) ?_
          refine am_hp (show am_row (am_row h 323 (upd (upd (upd (upd (rf_sr (upd W2 7 (W2 7 + nI 1)) 0) 431 (W2 5)) 432 (nI b)) 433 (nI s)) 434 (nI (rf_takes (h 323) s good - 1)))) 323 (upd (upd (upd (upd (upd (rf_sr (upd W2 7 (W2 7 + nI 1)) 0) 431 (W2 5)) 432 (nI b)) 433 (nI s)) 434 (nI (rf_takes (h 323) s good - 1))) 435 (am_b good)) = (am_row h 323 (upd (upd (upd (upd (upd (rf_sr (upd W2 7 (W2 7 + nI 1)) 0) 431 (W2 5)) 432 (nI b)) 433 (nI s)) 434 (nI (rf_takes (h 323) s good - 1))) 435 (am_b good))) from am_row_s0) ?_
          refine am_aload_n (pc := 138) C dX12_hits_138 rfl ?_
          refine am_getR (pc := 139) (j := 323) C dX12_hits_139 f12_13 bn_322 sh_322 (rf_322_1 hR) ?_
          refine am_bipush (pc := 142) (v := nI 9) C dX12_hits_142 (by decide) ?_
          refine am_bipush (pc := 144) (v := nI 60) C dX12_hits_144 (by decide) ?_
          refine am_aload_n (pc := 146) C dX12_hits_146 rfl ?_
          refine am_getR (pc := 147) (j := 323) C dX12_hits_147 f12_13 bn_322 sh_322 (rf_322_1 hR) ?_
          refine am_bipush (pc := 150) (v := nI 9) C dX12_hits_150 (by decide) ?_
          refine am_iaload (pc := 152) C dX12_hits_152 bn_323 sh_323 (vp_in_nI (by omega) (by decide)) ?_
          refine am_top (show (upd (upd (upd (upd (upd (rf_sr (upd W2 7 (W2 7 + nI 1)) 0) 431 (W2 5)) 432 (nI b)) 433 (nI s)) 434 (nI (rf_takes (h 323) s good - 1))) 435 (am_b good)) (nI 9).toNatClampNeg = (upd (upd (upd (upd (upd (rf_sr (upd W2 7 (W2 7 + nI 1)) 0) 431 (W2 5)) 432 (nI b)) 433 (nI s)) 434 (nI (rf_takes (h 323) s good - 1))) 435 (am_b good)) 9 from by rw [nI_clamp (by omega)]) ?_
          refine am_iconstN (pc := 153) (k := 1) C dX12_hits_153 ?_
          refine am_iadd (pc := 154) C dX12_hits_154 ?_
          refine am_top (show (((upd (upd (upd (upd (upd (rf_sr (upd W2 7 (W2 7 + nI 1)) 0) 431 (W2 5)) 432 (nI b)) 433 (nI s)) 434 (nI (rf_takes (h 323) s good - 1))) 435 (am_b good)) 9) + (nI 1)) = (W2 9 + nI 1) from rfl) ?_
          refine am_callSi (Y := mJ9_min_7cf53) (pc := 155) (st := [.int (nI 9), .ref 323]) (As := [.int (nI 60), .int (W2 9 + nI 1)]) (x := (rf_min (nI 60) (W2 9 + nI 1))) (h2 := (am_row h 323 (upd (upd (upd (upd (upd (rf_sr (upd W2 7 (W2 7 + nI 1)) 0) 431 (W2 5)) 432 (nI b)) 433 (nI s)) 434 (nI (rf_takes (h 323) s good - 1))) 435 (am_b good)))) C dX12_hits_155 k12_293 v_J9_min_7cf53 rfl rfl (by decide) (Nat.zero_le _) (Nat.zero_le _) (Nat.le_of_ble_eq_true rfl) (c_J9_min_7cf53 hR (nI 60) (W2 9 + nI 1)) ?_
          refine am_iastore (pc := 158) C dX12_hits_158 bn_323 sh_323 (vp_in_nI (by omega) (by decide)) ?_
          refine am_hp (show am_up (am_row h 323 (upd (upd (upd (upd (upd (rf_sr (upd W2 7 (W2 7 + nI 1)) 0) 431 (W2 5)) 432 (nI b)) 433 (nI s)) 434 (nI (rf_takes (h 323) s good - 1))) 435 (am_b good))) 323 (nI 9).toNatClampNeg (rf_min (nI 60) (W2 9 + nI 1)) = am_row (am_row h 323 (upd (upd (upd (upd (upd (rf_sr (upd W2 7 (W2 7 + nI 1)) 0) 431 (W2 5)) 432 (nI b)) 433 (nI s)) 434 (nI (rf_takes (h 323) s good - 1))) 435 (am_b good))) 323 (upd (upd (upd (upd (upd (upd (rf_sr (upd W2 7 (W2 7 + nI 1)) 0) 431 (W2 5)) 432 (nI b)) 433 (nI s)) 434 (nI (rf_takes (h 323) s good - 1))) 435 (am_b good)) 9 (rf_min (nI 60) (W2 9 + nI 1))) from by rw [nI_clamp (by omega)]; exact am_up_rw _ _ _ _) ?_
          refine am_hp (show am_row (am_row h 323 (upd (upd (upd (upd (upd (rf_sr (upd W2 7 (W2 7 + nI 1)) 0) 431 (W2 5)) 432 (nI b)) 433 (nI s)) 434 (nI (rf_takes (h 323) s good - 1))) 435 (am_b good))) 323 (upd (upd (upd (upd (upd (upd (rf_sr (upd W2 7 (W2 7 + nI 1)) 0) 431 (W2 5)) 432 (nI b)) 433 (nI s)) 434 (nI (rf_takes (h 323) s good - 1))) 435 (am_b good)) 9 (rf_min (nI 60) (W2 9 + nI 1))) = (am_row h 323 (upd (upd (upd (upd (upd (upd (rf_sr (upd W2 7 (W2 7 + nI 1)) 0) 431 (W2 5)) 432 (nI b)) 433 (nI s)) 434 (nI (rf_takes (h 323) s good - 1))) 435 (am_b good)) 9 (rf_min (nI 60) (W2 9 + nI 1)))) from am_row_s0) ?_
          refine am_iload (pc := 159) C dX12_hits_159 rfl ?_
          exact am_ireti T dX12_hits_161 rfl (Nat.le_refl _) (Nat.le_refl _) rfl rfl (by rw [rf_hit, ← he_W2]; rfl)
      · skip
        exact absurd q46 (by omega)
    | succ j43 ih43 =>
      intro  hj5
      refine am_iload (pc := 43) C dX12_hits_43 rfl ?_
      refine am_iconstN (pc := 45) (k := 5) C dX12_hits_45 ?_
      refine am_icmp_ltN (pc := 46) (tgt := 79) C dX12_hits_46 (by decide) (by omega) (by omega) (fun q46 => ?_) (fun q46 => ?_)
      · skip
        exact absurd q46 (by omega)
      · skip
        refine am_aload_n (pc := 49) C dX12_hits_49 rfl ?_
        refine am_getR (pc := 50) (j := 323) C dX12_hits_50 f12_13 bn_322 sh_322 (rf_322_1 hR) ?_
        refine am_sipush (pc := 53) (v := nI 431) C dX12_hits_53 (by decide) ?_
        refine am_iload (pc := 56) C dX12_hits_56 rfl ?_
        refine am_iaddN (pc := 58) C dX12_hits_58 ?_
        refine am_aload_n (pc := 59) C dX12_hits_59 rfl ?_
        refine am_getR (pc := 60) (j := 323) C dX12_hits_60 f12_13 bn_322 sh_322 (rf_322_1 hR) ?_
        refine am_sipush (pc := 63) (v := nI 431) C dX12_hits_63 (by decide) ?_
        refine am_iload (pc := 66) C dX12_hits_66 rfl ?_
        refine am_iaddN (pc := 68) C dX12_hits_68 ?_
        refine am_iconstN (pc := 69) (k := 5) C dX12_hits_69 ?_
        refine am_isubN (pc := 70) C dX12_hits_70 (by omega) ?_
        refine am_iaload (pc := 71) C dX12_hits_71 bn_323 sh_323 (vp_in_nI (by omega) (by decide)) ?_
        refine am_top (show (rf_sr (upd W2 7 (W2 7 + nI 1)) (j43 + 1)) (nI ((431 + ((j43 + 1) + 4)) - 5)).toNatClampNeg = (rf_sr (upd W2 7 (W2 7 + nI 1)) (j43 + 1)) ((431 + ((j43 + 1) + 4)) - 5) from by rw [nI_clamp (by omega)]) ?_
        refine am_iastore (pc := 72) C dX12_hits_72 bn_323 sh_323 (vp_in_nI (by omega) (by decide)) ?_
        refine am_hp (show am_up (am_row h 323 (rf_sr (upd W2 7 (W2 7 + nI 1)) (j43 + 1))) 323 (nI (431 + ((j43 + 1) + 4))).toNatClampNeg ((rf_sr (upd W2 7 (W2 7 + nI 1)) (j43 + 1)) ((431 + ((j43 + 1) + 4)) - 5)) = am_row (am_row h 323 (rf_sr (upd W2 7 (W2 7 + nI 1)) (j43 + 1))) 323 (upd (rf_sr (upd W2 7 (W2 7 + nI 1)) (j43 + 1)) (431 + ((j43 + 1) + 4)) ((rf_sr (upd W2 7 (W2 7 + nI 1)) (j43 + 1)) ((431 + ((j43 + 1) + 4)) - 5))) from by rw [nI_clamp (by omega)]; exact am_up_rw _ _ _ _) ?_
        refine am_hp (show am_row (am_row h 323 (rf_sr (upd W2 7 (W2 7 + nI 1)) (j43 + 1))) 323 (upd (rf_sr (upd W2 7 (W2 7 + nI 1)) (j43 + 1)) (431 + ((j43 + 1) + 4)) ((rf_sr (upd W2 7 (W2 7 + nI 1)) (j43 + 1)) ((431 + ((j43 + 1) + 4)) - 5))) = (am_row h 323 (upd (rf_sr (upd W2 7 (W2 7 + nI 1)) (j43 + 1)) (431 + ((j43 + 1) + 4)) ((rf_sr (upd W2 7 (W2 7 + nI 1)) (j43 + 1)) ((431 + ((j43 + 1) + 4)) - 5)))) from am_row_s0) ?_
        refine am_lsv (ls' := [(0, .ref 322), (1, .int (nI b)), (2, .int (nI s)), (3, .int (am_b good)), (4, .int (nI (rf_takes (h 323) s good - 1))), (5, .int (nI ((j43 + 4) + 1)))]) (by rw [show (nI ((j43 + 1) + 4)) = (nI ((j43 + 4) + 1)) from congrArg nI (by omega)]) ?_
        refine am_iincN (pc := 73) (ls' := [(0, .ref 322), (1, .int (nI b)), (2, .int (nI s)), (3, .int (am_b good)), (4, .int (nI (rf_takes (h 323) s good - 1))), (5, .int (nI (j43 + 4)))]) C dX12_hits_73 rfl (am_dn1 _) (by decide) rfl ?_
        refine am_goto (pc := 76) (tgt := 43) C dX12_hits_76 (by decide) ?_
        refine am_hp (show (am_row h 323 (upd (rf_sr (upd W2 7 (W2 7 + nI 1)) (j43 + 1)) (431 + ((j43 + 1) + 4)) ((rf_sr (upd W2 7 (W2 7 + nI 1)) (j43 + 1)) ((431 + ((j43 + 1) + 4)) - 5)))) = (am_row h 323 (rf_sr (upd W2 7 (W2 7 + nI 1)) j43)) from congrArg (am_row h 323) (rf_sr_s (by omega) (by omega) (rf_sr_out (by omega)))) ?_
        exact ih43  (by omega)
  refine am_hp (show (am_row h 323 (upd W2 7 ((W2 7) + (nI 1)))) = (am_row h 323 (rf_sr (upd W2 7 (W2 7 + nI 1)) 295)) from (by rw [rf_sr_295])) ?_
  exact L43 295  (Nat.le_refl _)

set_option maxHeartbeats 400000 in
set_option maxRecDepth 100000 in
theorem c_X12_reads {ad : Nat → Nat} {r : am_R} (hR : am_rs r) {h : am_H} (s : Nat) (hV : rf_I (h 323)) (hs : s < rf_S (h 323))  : am_CM mX12_reads 6 0 0 [.ref 322, .int (nI s)] (am_VV ad) r h (am_po (some (.int (nI ((rf_read (h 323) s).2)))) r (am_row h 323 ((rf_read (h 323) s).1))) := by
  refine am_CM.of (by decide +kernel) (Nat.le_of_ble_eq_true rfl) (fun X C T => ?_)
  show am_G X (am_VV ad) (0, 0) 0 [(0, .ref 322), (1, .int (nI s))] [] r h
  have hM9 : rf_M (h 323) < 17 := hV.1.1.2
  have hS9 : rf_S (h 323) < 11 := hV.1.2.1.2
  have hO9 : rf_O (h 323) < 11 := hV.1.2.2.2
  refine am_iconstN (pc := 0) (k := 0) C dX12_reads_0 ?_
  refine am_istore_n (pc := 1) (ls' := [(0, .ref 322), (1, .int (nI s)), (2, .int (nI 0))]) C dX12_reads_1 (by decide) rfl ?_
  refine am_aload_n (pc := 2) C dX12_reads_2 rfl ?_
  refine am_aload_n (pc := 3) C dX12_reads_3 rfl ?_
  refine am_iload_n (pc := 4) C dX12_reads_4 rfl ?_
  refine am_iconstN (pc := 5) (k := 0) C dX12_reads_5 ?_
  refine am_callVi (Y := mX12_of) (pc := 6) (st := [.ref 322]) (As := [.int (nI s), .int (nI 0)]) (x := (rf_of (h 323) s 0)) (h2 := h) C dX12_reads_6 k12_63 v_X12_of rfl rfl bn_322 sh_322 ⟨by decide, rfl⟩ (by decide) (Nat.zero_le _) (Nat.zero_le _) (Nat.le_of_ble_eq_true rfl) (c_X12_of hR s 0 (show s < 11 from by omega) (show 0 < 23 from by omega)) ?_
  refine am_aload_n (pc := 9) C dX12_reads_9 rfl ?_
  refine am_iload_n (pc := 10) C dX12_reads_10 rfl ?_
  refine am_callVi (Y := mX12_placeOf) (pc := 11) (st := [.int (rf_of (h 323) s 0), .ref 322]) (As := [.int (nI s)]) (x := (rf_pl (h 323) s)) (h2 := h) C dX12_reads_11 k12_272 v_X12_placeOf rfl rfl bn_322 sh_322 ⟨by decide, rfl⟩ (by decide) (Nat.zero_le _) (Nat.zero_le _) (Nat.le_of_ble_eq_true rfl) (c_X12_placeOf hR s (show s < 11 from by omega) (show rf_Is (h 323) s from (hV.2.1 s (by omega)))) ?_
  refine am_callVi (Y := mX12_sideIn) (pc := 14) (st := []) (As := [.int (rf_of (h 323) s 0), .int (rf_pl (h 323) s)]) (x := (rf_sideIn (h 323) (rf_of (h 323) s 0) (rf_pl (h 323) s))) (h2 := h) C dX12_reads_14 k12_283 v_X12_sideIn rfl rfl bn_322 sh_322 ⟨by decide, rfl⟩ (by decide) (Nat.zero_le _) (Nat.zero_le _) (Nat.le_of_ble_eq_true rfl) (c_X12_sideIn hR (rf_of (h 323) s 0) (rf_pl (h 323) s) hV) ?_
  refine am_istore_n (pc := 17) (ls' := [(0, .ref 322), (1, .int (nI s)), (2, .int (nI 0)), (3, .int (rf_sideIn (h 323) (rf_of (h 323) s 0) (rf_pl (h 323) s)))]) C dX12_reads_17 (by decide) rfl ?_
  refine am_iconstN (pc := 18) (k := 0) C dX12_reads_18 ?_
  refine am_istore (pc := 19) (ls' := [(0, .ref 322), (1, .int (nI s)), (2, .int (nI 0)), (3, .int (rf_sideIn (h 323) (rf_of (h 323) s 0) (rf_pl (h 323) s))), (4, .int (nI 0))]) C dX12_reads_19 (by decide) rfl ?_
  have L21 : ∀ (j21 i21 : Nat), i21 + j21 = rf_S (h 323) → am_G X (am_VV ad) (0, 0) 21 [(0, .ref 322), (1, .int (nI s)), (2, .int (nI ((rf_rd2 (rf_sideIn (h 323) (rf_of (h 323) s 0) (rf_pl (h 323) s)) s (rf_M (h 323)) i21 (h 323, 0)).2))), (3, .int (rf_sideIn (h 323) (rf_of (h 323) s 0) (rf_pl (h 323) s))), (4, .int (nI i21))] [] r (am_row h 323 ((rf_rd2 (rf_sideIn (h 323) (rf_of (h 323) s 0) (rf_pl (h 323) s)) s (rf_M (h 323)) i21 (h 323, 0)).1)) := by
    intro j21
    induction j21 with
    | zero =>
      intro i21 hi21 
      obtain rfl : i21 = rf_S (h 323) := by omega
      have ok21 := rf_rd2_ok (all := (rf_sideIn (h 323) (rf_of (h 323) s 0) (rf_pl (h 323) s))) (s := s) (x := (h 323, 0)) hV (rf_S (h 323)) (Nat.le_refl _)
      refine am_iload (pc := 21) C dX12_reads_21 rfl ?_
      refine am_aload_n (pc := 23) C dX12_reads_23 rfl ?_
      refine am_callVi (Y := mX12_soldiers) (pc := 24) (st := [.int (nI (rf_S (h 323)))]) (As := []) (x := (nI (rf_S ((rf_rd2 (rf_sideIn (h 323) (rf_of (h 323) s 0) (rf_pl (h 323) s)) s (rf_M (h 323)) (rf_S (h 323)) (h 323, 0)).1)))) (h2 := (am_row h 323 ((rf_rd2 (rf_sideIn (h 323) (rf_of (h 323) s 0) (rf_pl (h 323) s)) s (rf_M (h 323)) (rf_S (h 323)) (h 323, 0)).1))) C dX12_reads_24 k12_75 v_X12_soldiers rfl rfl bn_322 sh_322 ⟨by decide, rfl⟩ (by decide) (Nat.zero_le _) (Nat.zero_le _) (Nat.le_of_ble_eq_true rfl) (c_X12_soldiers hR (show rf_Cn ((rf_rd2 (rf_sideIn (h 323) (rf_of (h 323) s 0) (rf_pl (h 323) s)) s (rf_M (h 323)) (rf_S (h 323)) (h 323, 0)).1) from ok21.1.1)) ?_
      refine am_top (show (nI (rf_S ((rf_rd2 (rf_sideIn (h 323) (rf_of (h 323) s 0) (rf_pl (h 323) s)) s (rf_M (h 323)) (rf_S (h 323)) (h 323, 0)).1))) = (nI (rf_S (h 323))) from (congrArg nI ok21.2.1.S)) ?_
      refine am_icmp_geN (pc := 27) (tgt := 97) C dX12_reads_27 (by decide) (by omega) (by omega) (fun q27 => ?_) (fun q27 => ?_)
      · skip
        refine am_iload_n (pc := 97) C dX12_reads_97 rfl ?_
        exact am_ireti T dX12_reads_98 rfl (Nat.le_refl _) (Nat.le_refl _) rfl rfl rfl
      · skip
        exact absurd q27 (by omega)
    | succ j21 ih21 =>
      intro i21 hi21 
      have hl21 : i21 < rf_S (h 323) := by omega
      have ok21 := rf_rd2_ok (all := (rf_sideIn (h 323) (rf_of (h 323) s 0) (rf_pl (h 323) s))) (s := s) (x := (h 323, 0)) hV i21 (Nat.le_of_lt hl21)
      refine am_iload (pc := 21) C dX12_reads_21 rfl ?_
      refine am_aload_n (pc := 23) C dX12_reads_23 rfl ?_
      refine am_callVi (Y := mX12_soldiers) (pc := 24) (st := [.int (nI i21)]) (As := []) (x := (nI (rf_S ((rf_rd2 (rf_sideIn (h 323) (rf_of (h 323) s 0) (rf_pl (h 323) s)) s (rf_M (h 323)) i21 (h 323, 0)).1)))) (h2 := (am_row h 323 ((rf_rd2 (rf_sideIn (h 323) (rf_of (h 323) s 0) (rf_pl (h 323) s)) s (rf_M (h 323)) i21 (h 323, 0)).1))) C dX12_reads_24 k12_75 v_X12_soldiers rfl rfl bn_322 sh_322 ⟨by decide, rfl⟩ (by decide) (Nat.zero_le _) (Nat.zero_le _) (Nat.le_of_ble_eq_true rfl) (c_X12_soldiers hR (show rf_Cn ((rf_rd2 (rf_sideIn (h 323) (rf_of (h 323) s 0) (rf_pl (h 323) s)) s (rf_M (h 323)) i21 (h 323, 0)).1) from ok21.1.1)) ?_
      refine am_top (show (nI (rf_S ((rf_rd2 (rf_sideIn (h 323) (rf_of (h 323) s 0) (rf_pl (h 323) s)) s (rf_M (h 323)) i21 (h 323, 0)).1))) = (nI (rf_S (h 323))) from (congrArg nI ok21.2.1.S)) ?_
      refine am_icmp_geN (pc := 27) (tgt := 97) C dX12_reads_27 (by decide) (by omega) (by omega) (fun q27 => ?_) (fun q27 => ?_)
      · skip
        exact absurd q27 (by omega)
      · skip
        refine am_iconstN (pc := 30) (k := 0) C dX12_reads_30 ?_
        refine am_istore (pc := 31) (ls' := [(0, .ref 322), (1, .int (nI s)), (2, .int (nI ((rf_rd2 (rf_sideIn (h 323) (rf_of (h 323) s 0) (rf_pl (h 323) s)) s (rf_M (h 323)) i21 (h 323, 0)).2))), (3, .int (rf_sideIn (h 323) (rf_of (h 323) s 0) (rf_pl (h 323) s))), (4, .int (nI i21)), (5, .int (nI 0))]) C dX12_reads_31 (by decide) rfl ?_
        have L33 : ∀ (j33 i33 : Nat), i33 + j33 = rf_M (h 323) → am_G X (am_VV ad) (0, 0) 33 [(0, .ref 322), (1, .int (nI s)), (2, .int (nI ((rf_rd1 (rf_sideIn (h 323) (rf_of (h 323) s 0) (rf_pl (h 323) s)) s i21 i33 (rf_rd2 (rf_sideIn (h 323) (rf_of (h 323) s 0) (rf_pl (h 323) s)) s (rf_M (h 323)) i21 (h 323, 0))).2))), (3, .int (rf_sideIn (h 323) (rf_of (h 323) s 0) (rf_pl (h 323) s))), (4, .int (nI i21)), (5, .int (nI i33))] [] r (am_row h 323 ((rf_rd1 (rf_sideIn (h 323) (rf_of (h 323) s 0) (rf_pl (h 323) s)) s i21 i33 (rf_rd2 (rf_sideIn (h 323) (rf_of (h 323) s 0) (rf_pl (h 323) s)) s (rf_M (h 323)) i21 (h 323, 0))).1)) := by
          intro j33
          induction j33 with
          | zero =>
            intro i33 hi33 
            obtain rfl : i33 = rf_M (h 323) := by omega
            have ok33 := rf_rd1_ok (all := (rf_sideIn (h 323) (rf_of (h 323) s 0) (rf_pl (h 323) s))) (s := s) (o := i21) (x := (rf_rd2 (rf_sideIn (h 323) (rf_of (h 323) s 0) (rf_pl (h 323) s)) s (rf_M (h 323)) i21 (h 323, 0))) ok21.1 (by rw [ok21.2.1.S]; exact hl21) (rf_M (h 323)) (by rw [ok21.2.1.M]; exact Nat.le_refl _)
            refine am_iload (pc := 33) C dX12_reads_33 rfl ?_
            refine am_aload_n (pc := 35) C dX12_reads_35 rfl ?_
            refine am_callVi (Y := mX12_memories) (pc := 36) (st := [.int (nI (rf_M (h 323)))]) (As := []) (x := (nI (rf_M ((rf_rd1 (rf_sideIn (h 323) (rf_of (h 323) s 0) (rf_pl (h 323) s)) s i21 (rf_M (h 323)) (rf_rd2 (rf_sideIn (h 323) (rf_of (h 323) s 0) (rf_pl (h 323) s)) s (rf_M (h 323)) i21 (h 323, 0))).1)))) (h2 := (am_row h 323 ((rf_rd1 (rf_sideIn (h 323) (rf_of (h 323) s 0) (rf_pl (h 323) s)) s i21 (rf_M (h 323)) (rf_rd2 (rf_sideIn (h 323) (rf_of (h 323) s 0) (rf_pl (h 323) s)) s (rf_M (h 323)) i21 (h 323, 0))).1))) C dX12_reads_36 k12_67 v_X12_memories rfl rfl bn_322 sh_322 ⟨by decide, rfl⟩ (by decide) (Nat.zero_le _) (Nat.zero_le _) (Nat.le_of_ble_eq_true rfl) (c_X12_memories hR (show rf_Cn ((rf_rd1 (rf_sideIn (h 323) (rf_of (h 323) s 0) (rf_pl (h 323) s)) s i21 (rf_M (h 323)) (rf_rd2 (rf_sideIn (h 323) (rf_of (h 323) s 0) (rf_pl (h 323) s)) s (rf_M (h 323)) i21 (h 323, 0))).1) from ok33.1.1)) ?_
            refine am_top (show (nI (rf_M ((rf_rd1 (rf_sideIn (h 323) (rf_of (h 323) s 0) (rf_pl (h 323) s)) s i21 (rf_M (h 323)) (rf_rd2 (rf_sideIn (h 323) (rf_of (h 323) s 0) (rf_pl (h 323) s)) s (rf_M (h 323)) i21 (h 323, 0))).1))) = (nI (rf_M (h 323))) from (congrArg nI ((ok21.2.1.tr ok33.2.1).M))) ?_
            refine am_icmp_geN (pc := 39) (tgt := 91) C dX12_reads_39 (by decide) (by omega) (by omega) (fun q39 => ?_) (fun q39 => ?_)
            · skip
              refine am_iincN (pc := 91) (ls' := [(0, .ref 322), (1, .int (nI s)), (2, .int (nI ((rf_rd1 (rf_sideIn (h 323) (rf_of (h 323) s 0) (rf_pl (h 323) s)) s i21 (rf_M (h 323)) (rf_rd2 (rf_sideIn (h 323) (rf_of (h 323) s 0) (rf_pl (h 323) s)) s (rf_M (h 323)) i21 (h 323, 0))).2))), (3, .int (rf_sideIn (h 323) (rf_of (h 323) s 0) (rf_pl (h 323) s))), (4, .int (nI (i21 + 1))), (5, .int (nI (rf_M (h 323))))]) C dX12_reads_91 rfl (am_up1 _) (by decide) rfl ?_
              refine am_goto (pc := 94) (tgt := 21) C dX12_reads_94 (by decide) ?_
              refine am_sub (ls' := [(0, .ref 322), (1, .int (nI s)), (2, .int (nI ((rf_rd1 (rf_sideIn (h 323) (rf_of (h 323) s 0) (rf_pl (h 323) s)) s i21 (rf_M (h 323)) (rf_rd2 (rf_sideIn (h 323) (rf_of (h 323) s 0) (rf_pl (h 323) s)) s (rf_M (h 323)) i21 (h 323, 0))).2))), (3, .int (rf_sideIn (h 323) (rf_of (h 323) s 0) (rf_pl (h 323) s))), (4, .int (nI (i21 + 1)))]) (by intro q hq; simp only [List.mem_cons, List.not_mem_nil, or_false] at hq ⊢; rcases hq with rfl | rfl | rfl | rfl | rfl <;> simp) ?_
              refine am_hp (show (am_row h 323 ((rf_rd1 (rf_sideIn (h 323) (rf_of (h 323) s 0) (rf_pl (h 323) s)) s i21 (rf_M (h 323)) (rf_rd2 (rf_sideIn (h 323) (rf_of (h 323) s 0) (rf_pl (h 323) s)) s (rf_M (h 323)) i21 (h 323, 0))).1)) = (am_row h 323 ((rf_rd2 (rf_sideIn (h 323) (rf_of (h 323) s 0) (rf_pl (h 323) s)) s (rf_M (h 323)) (i21 + 1) (h 323, 0)).1)) from rfl) ?_
              refine am_lsv (ls' := [(0, .ref 322), (1, .int (nI s)), (2, .int (nI ((rf_rd2 (rf_sideIn (h 323) (rf_of (h 323) s 0) (rf_pl (h 323) s)) s (rf_M (h 323)) (i21 + 1) (h 323, 0)).2))), (3, .int (rf_sideIn (h 323) (rf_of (h 323) s 0) (rf_pl (h 323) s))), (4, .int (nI (i21 + 1)))]) (by rw [show (nI ((rf_rd1 (rf_sideIn (h 323) (rf_of (h 323) s 0) (rf_pl (h 323) s)) s i21 (rf_M (h 323)) (rf_rd2 (rf_sideIn (h 323) (rf_of (h 323) s 0) (rf_pl (h 323) s)) s (rf_M (h 323)) i21 (h 323, 0))).2)) = (nI ((rf_rd2 (rf_sideIn (h 323) (rf_of (h 323) s 0) (rf_pl (h 323) s)) s (rf_M (h 323)) (i21 + 1) (h 323, 0)).2)) from rfl]) ?_
              exact ih21 (i21 + 1) (by omega) 
            · skip
              exact absurd q39 (by omega)
          | succ j33 ih33 =>
            intro i33 hi33 
            have hl33 : i33 < rf_M (h 323) := by omega
            have ok33 := rf_rd1_ok (all := (rf_sideIn (h 323) (rf_of (h 323) s 0) (rf_pl (h 323) s))) (s := s) (o := i21) (x := (rf_rd2 (rf_sideIn (h 323) (rf_of (h 323) s 0) (rf_pl (h 323) s)) s (rf_M (h 323)) i21 (h 323, 0))) ok21.1 (by rw [ok21.2.1.S]; exact hl21) i33 (by rw [ok21.2.1.M]; exact Nat.le_of_lt hl33)
            have ho33 : i21 < rf_S (rf_rd1 (rf_sideIn (h 323) (rf_of (h 323) s 0) (rf_pl (h 323) s)) s i21 i33 (rf_rd2 (rf_sideIn (h 323) (rf_of (h 323) s 0) (rf_pl (h 323) s)) s (rf_M (h 323)) i21 (h 323, 0))).1 := by rw [(ok21.2.1.tr ok33.2.1).S]; exact hl21
            refine am_iload (pc := 33) C dX12_reads_33 rfl ?_
            refine am_aload_n (pc := 35) C dX12_reads_35 rfl ?_
            refine am_callVi (Y := mX12_memories) (pc := 36) (st := [.int (nI i33)]) (As := []) (x := (nI (rf_M ((rf_rd1 (rf_sideIn (h 323) (rf_of (h 323) s 0) (rf_pl (h 323) s)) s i21 i33 (rf_rd2 (rf_sideIn (h 323) (rf_of (h 323) s 0) (rf_pl (h 323) s)) s (rf_M (h 323)) i21 (h 323, 0))).1)))) (h2 := (am_row h 323 ((rf_rd1 (rf_sideIn (h 323) (rf_of (h 323) s 0) (rf_pl (h 323) s)) s i21 i33 (rf_rd2 (rf_sideIn (h 323) (rf_of (h 323) s 0) (rf_pl (h 323) s)) s (rf_M (h 323)) i21 (h 323, 0))).1))) C dX12_reads_36 k12_67 v_X12_memories rfl rfl bn_322 sh_322 ⟨by decide, rfl⟩ (by decide) (Nat.zero_le _) (Nat.zero_le _) (Nat.le_of_ble_eq_true rfl) (c_X12_memories hR (show rf_Cn ((rf_rd1 (rf_sideIn (h 323) (rf_of (h 323) s 0) (rf_pl (h 323) s)) s i21 i33 (rf_rd2 (rf_sideIn (h 323) (rf_of (h 323) s 0) (rf_pl (h 323) s)) s (rf_M (h 323)) i21 (h 323, 0))).1) from ok33.1.1)) ?_
            refine am_top (show (nI (rf_M ((rf_rd1 (rf_sideIn (h 323) (rf_of (h 323) s 0) (rf_pl (h 323) s)) s i21 i33 (rf_rd2 (rf_sideIn (h 323) (rf_of (h 323) s 0) (rf_pl (h 323) s)) s (rf_M (h 323)) i21 (h 323, 0))).1))) = (nI (rf_M (h 323))) from (congrArg nI ((ok21.2.1.tr ok33.2.1).M))) ?_
            refine am_icmp_geN (pc := 39) (tgt := 91) C dX12_reads_39 (by decide) (by omega) (by omega) (fun q39 => ?_) (fun q39 => ?_)
            · skip
              exact absurd q39 (by omega)
            · skip
              refine am_iload_n (pc := 42) C dX12_reads_42 rfl ?_
              refine am_iload (pc := 43) C dX12_reads_43 rfl ?_
              refine am_callSi (Y := mX12_has) (pc := 45) (st := []) (As := [.int (rf_sideIn (h 323) (rf_of (h 323) s 0) (rf_pl (h 323) s)), .int (nI i21)]) (x := (am_b (am_bt (rf_sideIn (h 323) (rf_of (h 323) s 0) (rf_pl (h 323) s)) i21))) (h2 := (am_row h 323 ((rf_rd1 (rf_sideIn (h 323) (rf_of (h 323) s 0) (rf_pl (h 323) s)) s i21 i33 (rf_rd2 (rf_sideIn (h 323) (rf_of (h 323) s 0) (rf_pl (h 323) s)) s (rf_M (h 323)) i21 (h 323, 0))).1))) C dX12_reads_45 k12_81 v_X12_has rfl rfl (by decide) (Nat.zero_le _) (Nat.zero_le _) (Nat.le_of_ble_eq_true rfl) (c_X12_has hR (rf_sideIn (h 323) (rf_of (h 323) s 0) (rf_pl (h 323) s)) i21 (show i21 < 32 from by omega)) ?_
              refine am_if_eqB (pc := 48) (tgt := 85) C dX12_reads_48 (by decide) (fun q48 => ?_) (fun q48 => ?_)
              · skip
                refine am_iincN (pc := 85) (ls' := [(0, .ref 322), (1, .int (nI s)), (2, .int (nI ((rf_rd1 (rf_sideIn (h 323) (rf_of (h 323) s 0) (rf_pl (h 323) s)) s i21 i33 (rf_rd2 (rf_sideIn (h 323) (rf_of (h 323) s 0) (rf_pl (h 323) s)) s (rf_M (h 323)) i21 (h 323, 0))).2))), (3, .int (rf_sideIn (h 323) (rf_of (h 323) s 0) (rf_pl (h 323) s))), (4, .int (nI i21)), (5, .int (nI (i33 + 1)))]) C dX12_reads_85 rfl (am_up1 _) (by decide) rfl ?_
                refine am_goto (pc := 88) (tgt := 33) C dX12_reads_88 (by decide) ?_
                refine am_hp (show (am_row h 323 ((rf_rd1 (rf_sideIn (h 323) (rf_of (h 323) s 0) (rf_pl (h 323) s)) s i21 i33 (rf_rd2 (rf_sideIn (h 323) (rf_of (h 323) s 0) (rf_pl (h 323) s)) s (rf_M (h 323)) i21 (h 323, 0))).1)) = (am_row h 323 ((rf_rd1 (rf_sideIn (h 323) (rf_of (h 323) s 0) (rf_pl (h 323) s)) s i21 (i33 + 1) (rf_rd2 (rf_sideIn (h 323) (rf_of (h 323) s 0) (rf_pl (h 323) s)) s (rf_M (h 323)) i21 (h 323, 0))).1)) from congrArg (am_row h 323) (by rw [rf_rd1, if_neg (fun z => Bool.false_ne_true (q48.symm.trans z.1))])) ?_
                refine am_lsv (ls' := [(0, .ref 322), (1, .int (nI s)), (2, .int (nI ((rf_rd1 (rf_sideIn (h 323) (rf_of (h 323) s 0) (rf_pl (h 323) s)) s i21 (i33 + 1) (rf_rd2 (rf_sideIn (h 323) (rf_of (h 323) s 0) (rf_pl (h 323) s)) s (rf_M (h 323)) i21 (h 323, 0))).2))), (3, .int (rf_sideIn (h 323) (rf_of (h 323) s 0) (rf_pl (h 323) s))), (4, .int (nI i21)), (5, .int (nI (i33 + 1)))]) (by rw [show (nI ((rf_rd1 (rf_sideIn (h 323) (rf_of (h 323) s 0) (rf_pl (h 323) s)) s i21 i33 (rf_rd2 (rf_sideIn (h 323) (rf_of (h 323) s 0) (rf_pl (h 323) s)) s (rf_M (h 323)) i21 (h 323, 0))).2)) = (nI ((rf_rd1 (rf_sideIn (h 323) (rf_of (h 323) s 0) (rf_pl (h 323) s)) s i21 (i33 + 1) (rf_rd2 (rf_sideIn (h 323) (rf_of (h 323) s 0) (rf_pl (h 323) s)) s (rf_M (h 323)) i21 (h 323, 0))).2)) from congrArg nI (by rw [rf_rd1, if_neg (fun z => Bool.false_ne_true (q48.symm.trans z.1))])]) ?_
                exact ih33 (i33 + 1) (by omega) 
              · skip
                refine am_aload_n (pc := 51) C dX12_reads_51 rfl ?_
                refine am_iload_n (pc := 52) C dX12_reads_52 rfl ?_
                refine am_bipush (pc := 53) (v := nI 22) C dX12_reads_53 (by decide) ?_
                refine am_callVi (Y := mX12_of) (pc := 55) (st := []) (As := [.int (nI s), .int (nI 22)]) (x := (rf_of ((rf_rd1 (rf_sideIn (h 323) (rf_of (h 323) s 0) (rf_pl (h 323) s)) s i21 i33 (rf_rd2 (rf_sideIn (h 323) (rf_of (h 323) s 0) (rf_pl (h 323) s)) s (rf_M (h 323)) i21 (h 323, 0))).1) s 22)) (h2 := (am_row h 323 ((rf_rd1 (rf_sideIn (h 323) (rf_of (h 323) s 0) (rf_pl (h 323) s)) s i21 i33 (rf_rd2 (rf_sideIn (h 323) (rf_of (h 323) s 0) (rf_pl (h 323) s)) s (rf_M (h 323)) i21 (h 323, 0))).1))) C dX12_reads_55 k12_63 v_X12_of rfl rfl bn_322 sh_322 ⟨by decide, rfl⟩ (by decide) (Nat.zero_le _) (Nat.zero_le _) (Nat.le_of_ble_eq_true rfl) (c_X12_of hR s 22 (show s < 11 from by omega) (show 22 < 23 from by omega)) ?_
                refine am_iload (pc := 58) C dX12_reads_58 rfl ?_
                refine am_callSi (Y := mX12_has) (pc := 60) (st := []) (As := [.int (rf_of ((rf_rd1 (rf_sideIn (h 323) (rf_of (h 323) s 0) (rf_pl (h 323) s)) s i21 i33 (rf_rd2 (rf_sideIn (h 323) (rf_of (h 323) s 0) (rf_pl (h 323) s)) s (rf_M (h 323)) i21 (h 323, 0))).1) s 22), .int (nI i33)]) (x := (am_b (am_bt (rf_of ((rf_rd1 (rf_sideIn (h 323) (rf_of (h 323) s 0) (rf_pl (h 323) s)) s i21 i33 (rf_rd2 (rf_sideIn (h 323) (rf_of (h 323) s 0) (rf_pl (h 323) s)) s (rf_M (h 323)) i21 (h 323, 0))).1) s 22) i33))) (h2 := (am_row h 323 ((rf_rd1 (rf_sideIn (h 323) (rf_of (h 323) s 0) (rf_pl (h 323) s)) s i21 i33 (rf_rd2 (rf_sideIn (h 323) (rf_of (h 323) s 0) (rf_pl (h 323) s)) s (rf_M (h 323)) i21 (h 323, 0))).1))) C dX12_reads_60 k12_81 v_X12_has rfl rfl (by decide) (Nat.zero_le _) (Nat.zero_le _) (Nat.le_of_ble_eq_true rfl) (c_X12_has hR (rf_of ((rf_rd1 (rf_sideIn (h 323) (rf_of (h 323) s 0) (rf_pl (h 323) s)) s i21 i33 (rf_rd2 (rf_sideIn (h 323) (rf_of (h 323) s 0) (rf_pl (h 323) s)) s (rf_M (h 323)) i21 (h 323, 0))).1) s 22) i33 (show i33 < 32 from by omega)) ?_
                refine am_if_eqB (pc := 63) (tgt := 85) C dX12_reads_63 (by decide) (fun q63 => ?_) (fun q63 => ?_)
                · skip
                  refine am_iincN (pc := 85) (ls' := [(0, .ref 322), (1, .int (nI s)), (2, .int (nI ((rf_rd1 (rf_sideIn (h 323) (rf_of (h 323) s 0) (rf_pl (h 323) s)) s i21 i33 (rf_rd2 (rf_sideIn (h 323) (rf_of (h 323) s 0) (rf_pl (h 323) s)) s (rf_M (h 323)) i21 (h 323, 0))).2))), (3, .int (rf_sideIn (h 323) (rf_of (h 323) s 0) (rf_pl (h 323) s))), (4, .int (nI i21)), (5, .int (nI (i33 + 1)))]) C dX12_reads_85 rfl (am_up1 _) (by decide) rfl ?_
                  refine am_goto (pc := 88) (tgt := 33) C dX12_reads_88 (by decide) ?_
                  refine am_hp (show (am_row h 323 ((rf_rd1 (rf_sideIn (h 323) (rf_of (h 323) s 0) (rf_pl (h 323) s)) s i21 i33 (rf_rd2 (rf_sideIn (h 323) (rf_of (h 323) s 0) (rf_pl (h 323) s)) s (rf_M (h 323)) i21 (h 323, 0))).1)) = (am_row h 323 ((rf_rd1 (rf_sideIn (h 323) (rf_of (h 323) s 0) (rf_pl (h 323) s)) s i21 (i33 + 1) (rf_rd2 (rf_sideIn (h 323) (rf_of (h 323) s 0) (rf_pl (h 323) s)) s (rf_M (h 323)) i21 (h 323, 0))).1)) from congrArg (am_row h 323) (by rw [rf_rd1, if_neg (fun z => Bool.false_ne_true (q63.symm.trans z.2))])) ?_
                  refine am_lsv (ls' := [(0, .ref 322), (1, .int (nI s)), (2, .int (nI ((rf_rd1 (rf_sideIn (h 323) (rf_of (h 323) s 0) (rf_pl (h 323) s)) s i21 (i33 + 1) (rf_rd2 (rf_sideIn (h 323) (rf_of (h 323) s 0) (rf_pl (h 323) s)) s (rf_M (h 323)) i21 (h 323, 0))).2))), (3, .int (rf_sideIn (h 323) (rf_of (h 323) s 0) (rf_pl (h 323) s))), (4, .int (nI i21)), (5, .int (nI (i33 + 1)))]) (by rw [show (nI ((rf_rd1 (rf_sideIn (h 323) (rf_of (h 323) s 0) (rf_pl (h 323) s)) s i21 i33 (rf_rd2 (rf_sideIn (h 323) (rf_of (h 323) s 0) (rf_pl (h 323) s)) s (rf_M (h 323)) i21 (h 323, 0))).2)) = (nI ((rf_rd1 (rf_sideIn (h 323) (rf_of (h 323) s 0) (rf_pl (h 323) s)) s i21 (i33 + 1) (rf_rd2 (rf_sideIn (h 323) (rf_of (h 323) s 0) (rf_pl (h 323) s)) s (rf_M (h 323)) i21 (h 323, 0))).2)) from congrArg nI (by rw [rf_rd1, if_neg (fun z => Bool.false_ne_true (q63.symm.trans z.2))])]) ?_
                  exact ih33 (i33 + 1) (by omega) 
                · skip
                  refine am_iload_n (pc := 66) C dX12_reads_66 rfl ?_
                  refine am_aload_n (pc := 67) C dX12_reads_67 rfl ?_
                  refine am_iload (pc := 68) C dX12_reads_68 rfl ?_
                  refine am_iload (pc := 70) C dX12_reads_70 rfl ?_
                  refine am_callVi (Y := mX12_learns) (pc := 72) (st := [.int (nI ((rf_rd1 (rf_sideIn (h 323) (rf_of (h 323) s 0) (rf_pl (h 323) s)) s i21 i33 (rf_rd2 (rf_sideIn (h 323) (rf_of (h 323) s 0) (rf_pl (h 323) s)) s (rf_M (h 323)) i21 (h 323, 0))).2))]) (As := [.int (nI i21), .int (nI i33)]) (x := (am_b (rf_can ((rf_rd1 (rf_sideIn (h 323) (rf_of (h 323) s 0) (rf_pl (h 323) s)) s i21 i33 (rf_rd2 (rf_sideIn (h 323) (rf_of (h 323) s 0) (rf_pl (h 323) s)) s (rf_M (h 323)) i21 (h 323, 0))).1) i21 i33))) (h2 := (am_row (am_row h 323 ((rf_rd1 (rf_sideIn (h 323) (rf_of (h 323) s 0) (rf_pl (h 323) s)) s i21 i33 (rf_rd2 (rf_sideIn (h 323) (rf_of (h 323) s 0) (rf_pl (h 323) s)) s (rf_M (h 323)) i21 (h 323, 0))).1)) 323 (rf_learn ((rf_rd1 (rf_sideIn (h 323) (rf_of (h 323) s 0) (rf_pl (h 323) s)) s i21 i33 (rf_rd2 (rf_sideIn (h 323) (rf_of (h 323) s 0) (rf_pl (h 323) s)) s (rf_M (h 323)) i21 (h 323, 0))).1) i21 i33))) C dX12_reads_72 k12_366 v_X12_learns rfl rfl bn_322 sh_322 ⟨by decide, rfl⟩ (by decide) (Nat.zero_le _) (Nat.zero_le _) (Nat.le_of_ble_eq_true rfl) (c_X12_learns hR i21 i33 (show rf_I ((rf_rd1 (rf_sideIn (h 323) (rf_of (h 323) s 0) (rf_pl (h 323) s)) s i21 i33 (rf_rd2 (rf_sideIn (h 323) (rf_of (h 323) s 0) (rf_pl (h 323) s)) s (rf_M (h 323)) i21 (h 323, 0))).1) from ok33.1) (show i21 < rf_S ((rf_rd1 (rf_sideIn (h 323) (rf_of (h 323) s 0) (rf_pl (h 323) s)) s i21 i33 (rf_rd2 (rf_sideIn (h 323) (rf_of (h 323) s 0) (rf_pl (h 323) s)) s (rf_M (h 323)) i21 (h 323, 0))).1) from ho33) (show i33 < 16 from (by omega))) ?_
                  refine am_hp (show (am_row (am_row h 323 ((rf_rd1 (rf_sideIn (h 323) (rf_of (h 323) s 0) (rf_pl (h 323) s)) s i21 i33 (rf_rd2 (rf_sideIn (h 323) (rf_of (h 323) s 0) (rf_pl (h 323) s)) s (rf_M (h 323)) i21 (h 323, 0))).1)) 323 (rf_learn ((rf_rd1 (rf_sideIn (h 323) (rf_of (h 323) s 0) (rf_pl (h 323) s)) s i21 i33 (rf_rd2 (rf_sideIn (h 323) (rf_of (h 323) s 0) (rf_pl (h 323) s)) s (rf_M (h 323)) i21 (h 323, 0))).1) i21 i33)) = (am_row h 323 (rf_learn ((rf_rd1 (rf_sideIn (h 323) (rf_of (h 323) s 0) (rf_pl (h 323) s)) s i21 i33 (rf_rd2 (rf_sideIn (h 323) (rf_of (h 323) s 0) (rf_pl (h 323) s)) s (rf_M (h 323)) i21 (h 323, 0))).1) i21 i33)) from am_row_s0) ?_
                  refine am_if_eqB (pc := 75) (tgt := 82) C dX12_reads_75 (by decide) (fun q75 => ?_) (fun q75 => ?_)
                  · skip
                    refine am_iconstN (pc := 82) (k := 0) C dX12_reads_82 ?_
                    refine am_iaddN (pc := 83) C dX12_reads_83 ?_
                    refine am_istore_n (pc := 84) (ls' := [(0, .ref 322), (1, .int (nI s)), (2, .int (nI (((rf_rd1 (rf_sideIn (h 323) (rf_of (h 323) s 0) (rf_pl (h 323) s)) s i21 i33 (rf_rd2 (rf_sideIn (h 323) (rf_of (h 323) s 0) (rf_pl (h 323) s)) s (rf_M (h 323)) i21 (h 323, 0))).2) + 0))), (3, .int (rf_sideIn (h 323) (rf_of (h 323) s 0) (rf_pl (h 323) s))), (4, .int (nI i21)), (5, .int (nI i33))]) C dX12_reads_84 (by decide) rfl ?_
                    refine am_iincN (pc := 85) (ls' := [(0, .ref 322), (1, .int (nI s)), (2, .int (nI (((rf_rd1 (rf_sideIn (h 323) (rf_of (h 323) s 0) (rf_pl (h 323) s)) s i21 i33 (rf_rd2 (rf_sideIn (h 323) (rf_of (h 323) s 0) (rf_pl (h 323) s)) s (rf_M (h 323)) i21 (h 323, 0))).2) + 0))), (3, .int (rf_sideIn (h 323) (rf_of (h 323) s 0) (rf_pl (h 323) s))), (4, .int (nI i21)), (5, .int (nI (i33 + 1)))]) C dX12_reads_85 rfl (am_up1 _) (by decide) rfl ?_
                    refine am_goto (pc := 88) (tgt := 33) C dX12_reads_88 (by decide) ?_
                    refine am_hp (show (am_row h 323 (rf_learn ((rf_rd1 (rf_sideIn (h 323) (rf_of (h 323) s 0) (rf_pl (h 323) s)) s i21 i33 (rf_rd2 (rf_sideIn (h 323) (rf_of (h 323) s 0) (rf_pl (h 323) s)) s (rf_M (h 323)) i21 (h 323, 0))).1) i21 i33)) = (am_row h 323 ((rf_rd1 (rf_sideIn (h 323) (rf_of (h 323) s 0) (rf_pl (h 323) s)) s i21 (i33 + 1) (rf_rd2 (rf_sideIn (h 323) (rf_of (h 323) s 0) (rf_pl (h 323) s)) s (rf_M (h 323)) i21 (h 323, 0))).1)) from congrArg (am_row h 323) (by rw [rf_rd1, if_pos ⟨q48, q63⟩])) ?_
                    refine am_lsv (ls' := [(0, .ref 322), (1, .int (nI s)), (2, .int (nI ((rf_rd1 (rf_sideIn (h 323) (rf_of (h 323) s 0) (rf_pl (h 323) s)) s i21 (i33 + 1) (rf_rd2 (rf_sideIn (h 323) (rf_of (h 323) s 0) (rf_pl (h 323) s)) s (rf_M (h 323)) i21 (h 323, 0))).2))), (3, .int (rf_sideIn (h 323) (rf_of (h 323) s 0) (rf_pl (h 323) s))), (4, .int (nI i21)), (5, .int (nI (i33 + 1)))]) (by rw [show (nI (((rf_rd1 (rf_sideIn (h 323) (rf_of (h 323) s 0) (rf_pl (h 323) s)) s i21 i33 (rf_rd2 (rf_sideIn (h 323) (rf_of (h 323) s 0) (rf_pl (h 323) s)) s (rf_M (h 323)) i21 (h 323, 0))).2) + 0)) = (nI ((rf_rd1 (rf_sideIn (h 323) (rf_of (h 323) s 0) (rf_pl (h 323) s)) s i21 (i33 + 1) (rf_rd2 (rf_sideIn (h 323) (rf_of (h 323) s 0) (rf_pl (h 323) s)) s (rf_M (h 323)) i21 (h 323, 0))).2)) from congrArg nI (by rw [rf_rd1, if_pos ⟨q48, q63⟩]; show _ = _ + (if _ then 1 else 0); rw [if_neg (by rw [q75]; exact Bool.false_ne_true)])]) ?_
                    exact ih33 (i33 + 1) (by omega) 
                  · skip
                    refine am_iconstN (pc := 78) (k := 1) C dX12_reads_78 ?_
                    refine am_goto (pc := 79) (tgt := 83) C dX12_reads_79 (by decide) ?_
                    refine am_iaddN (pc := 83) C dX12_reads_83 ?_
                    refine am_istore_n (pc := 84) (ls' := [(0, .ref 322), (1, .int (nI s)), (2, .int (nI (((rf_rd1 (rf_sideIn (h 323) (rf_of (h 323) s 0) (rf_pl (h 323) s)) s i21 i33 (rf_rd2 (rf_sideIn (h 323) (rf_of (h 323) s 0) (rf_pl (h 323) s)) s (rf_M (h 323)) i21 (h 323, 0))).2) + 1))), (3, .int (rf_sideIn (h 323) (rf_of (h 323) s 0) (rf_pl (h 323) s))), (4, .int (nI i21)), (5, .int (nI i33))]) C dX12_reads_84 (by decide) rfl ?_
                    refine am_iincN (pc := 85) (ls' := [(0, .ref 322), (1, .int (nI s)), (2, .int (nI (((rf_rd1 (rf_sideIn (h 323) (rf_of (h 323) s 0) (rf_pl (h 323) s)) s i21 i33 (rf_rd2 (rf_sideIn (h 323) (rf_of (h 323) s 0) (rf_pl (h 323) s)) s (rf_M (h 323)) i21 (h 323, 0))).2) + 1))), (3, .int (rf_sideIn (h 323) (rf_of (h 323) s 0) (rf_pl (h 323) s))), (4, .int (nI i21)), (5, .int (nI (i33 + 1)))]) C dX12_reads_85 rfl (am_up1 _) (by decide) rfl ?_
                    refine am_goto (pc := 88) (tgt := 33) C dX12_reads_88 (by decide) ?_
                    refine am_hp (show (am_row h 323 (rf_learn ((rf_rd1 (rf_sideIn (h 323) (rf_of (h 323) s 0) (rf_pl (h 323) s)) s i21 i33 (rf_rd2 (rf_sideIn (h 323) (rf_of (h 323) s 0) (rf_pl (h 323) s)) s (rf_M (h 323)) i21 (h 323, 0))).1) i21 i33)) = (am_row h 323 ((rf_rd1 (rf_sideIn (h 323) (rf_of (h 323) s 0) (rf_pl (h 323) s)) s i21 (i33 + 1) (rf_rd2 (rf_sideIn (h 323) (rf_of (h 323) s 0) (rf_pl (h 323) s)) s (rf_M (h 323)) i21 (h 323, 0))).1)) from congrArg (am_row h 323) (by rw [rf_rd1, if_pos ⟨q48, q63⟩])) ?_
                    refine am_lsv (ls' := [(0, .ref 322), (1, .int (nI s)), (2, .int (nI ((rf_rd1 (rf_sideIn (h 323) (rf_of (h 323) s 0) (rf_pl (h 323) s)) s i21 (i33 + 1) (rf_rd2 (rf_sideIn (h 323) (rf_of (h 323) s 0) (rf_pl (h 323) s)) s (rf_M (h 323)) i21 (h 323, 0))).2))), (3, .int (rf_sideIn (h 323) (rf_of (h 323) s 0) (rf_pl (h 323) s))), (4, .int (nI i21)), (5, .int (nI (i33 + 1)))]) (by rw [show (nI (((rf_rd1 (rf_sideIn (h 323) (rf_of (h 323) s 0) (rf_pl (h 323) s)) s i21 i33 (rf_rd2 (rf_sideIn (h 323) (rf_of (h 323) s 0) (rf_pl (h 323) s)) s (rf_M (h 323)) i21 (h 323, 0))).2) + 1)) = (nI ((rf_rd1 (rf_sideIn (h 323) (rf_of (h 323) s 0) (rf_pl (h 323) s)) s i21 (i33 + 1) (rf_rd2 (rf_sideIn (h 323) (rf_of (h 323) s 0) (rf_pl (h 323) s)) s (rf_M (h 323)) i21 (h 323, 0))).2)) from congrArg nI (by rw [rf_rd1, if_pos ⟨q48, q63⟩]; show _ = _ + (if _ then 1 else 0); rw [if_pos q75])]) ?_
                    exact ih33 (i33 + 1) (by omega) 
        refine am_hp (show (am_row h 323 ((rf_rd2 (rf_sideIn (h 323) (rf_of (h 323) s 0) (rf_pl (h 323) s)) s (rf_M (h 323)) i21 (h 323, 0)).1)) = (am_row h 323 ((rf_rd1 (rf_sideIn (h 323) (rf_of (h 323) s 0) (rf_pl (h 323) s)) s i21 0 (rf_rd2 (rf_sideIn (h 323) (rf_of (h 323) s 0) (rf_pl (h 323) s)) s (rf_M (h 323)) i21 (h 323, 0))).1)) from rfl) ?_
        exact L33 (rf_M (h 323)) 0 (by omega) 
  refine am_sub (ls' := [(0, .ref 322), (1, .int (nI s)), (2, .int (nI 0)), (3, .int (rf_sideIn (h 323) (rf_of (h 323) s 0) (rf_pl (h 323) s))), (4, .int (nI 0))]) (by intro q hq; simp only [List.mem_cons, List.not_mem_nil, or_false] at hq ⊢; rcases hq with rfl | rfl | rfl | rfl | rfl <;> simp) ?_
  refine am_hp (show h = (am_row h 323 ((rf_rd2 (rf_sideIn (h 323) (rf_of (h 323) s 0) (rf_pl (h 323) s)) s (rf_M (h 323)) 0 (h 323, 0)).1)) from (am_row_id _ _).symm) ?_
  exact L21 (rf_S (h 323)) 0 (by omega) 

set_option maxHeartbeats 400000 in
set_option maxRecDepth 100000 in
theorem c_X12_shoots {ad : Nat → Nat} {r : am_R} (hR : am_rs r) {h : am_H} (s : Nat) (hV : rf_I (h 323)) (hs : s < rf_S (h 323)) (hL : rf_Lw (h 323))  : am_CM mX12_shoots 7 0 0 [.ref 322, .int (nI s)] (am_VV ad) r h (am_pj none r (fun G => (am_row (am_row h 330 (G 330)) 323 (rf_shoot (h 323) s)))) := by
  refine am_CM.of (by decide +kernel) (Nat.le_of_ble_eq_true rfl) (fun X C T => ?_)
  show am_G X (am_VV ad) (0, 0) 0 [(0, .ref 322), (1, .int (nI s))] [] r h
  have hM9 : rf_M (h 323) < 17 := hV.1.1.2
  have hS9 : rf_S (h 323) < 11 := hV.1.2.1.2
  have hO9 : rf_O (h 323) < 11 := hV.1.2.2.2
  have hd1 := rf_I_draw hV
  have hd2 := rf_I_draw hd1
  have hE2 : rf_Eq (h 323) (rf_draw (rf_draw (h 323))) := rf_Eq_draw.tr rf_Eq_draw
  have hsy : rf_says (rf_draw (h 323)) 0 s ≤ 100 := rf_says_le
  have hsy2 : rf_says (rf_draw (rf_draw (h 323))) 1 s ≤ 100 := rf_says_le
  have htg := rf_tgt_le (h 323) (rf_sideIn (h 323) (nI 1 - rf_of (h 323) s 0) (rf_pl (h 323) s)) (rf_S (h 323))
  have htb : rf_target (h 323) s < 11 := by rw [rf_target]; split <;> omega
  refine am_hp (show h = (am_row h 330 (h 330)) from (am_row_id _ _).symm) ?_
  refine am_aload_n (pc := 0) C dX12_shoots_0 rfl ?_
  refine am_iload_n (pc := 1) C dX12_shoots_1 rfl ?_
  refine am_callVi (Y := mX12_target) (pc := 2) (st := []) (As := [.int (nI s)]) (x := (am_oi (rf_target (h 323) s))) (h2 := (am_row h 330 (h 330))) C dX12_shoots_2 k12_346 v_X12_target rfl rfl bn_322 sh_322 ⟨by decide, rfl⟩ (by decide) (Nat.zero_le _) (Nat.zero_le _) (Nat.le_of_ble_eq_true rfl) (c_X12_target hR s hV hs) ?_
  refine am_istore_n (pc := 5) (ls' := [(0, .ref 322), (1, .int (nI s)), (2, .int (am_oi (rf_target (h 323) s)))]) C dX12_shoots_5 (by decide) rfl ?_
  refine am_iload_n (pc := 6) C dX12_shoots_6 rfl ?_
  refine am_if_ltO (pc := 7) (tgt := 25) C dX12_shoots_7 (by decide) (by omega) (fun q7 => ?_) (fun q7 => ?_)
  · skip
    exact am_vretvj (G := (am_row h 330 (h 330))) T dX12_shoots_25 rfl (Nat.le_refl _) (Nat.le_refl _) rfl (by rw [rf_shoot, if_pos q7]; exact (am_row_id _ _).symm)
  · skip
    refine am_aload_n (pc := 10) C dX12_shoots_10 rfl ?_
    refine am_bipush (pc := 11) (v := nI 100) C dX12_shoots_11 (by decide) ?_
    refine am_callVi (Y := mX12_draw) (pc := 13) (st := []) (As := [.int (nI 100)]) (x := (nI (rf_dr (h 323) % 100))) (h2 := (am_row (am_row h 330 (h 330)) 323 (rf_draw (h 323)))) C dX12_shoots_13 k12_369 v_X12_draw rfl rfl bn_322 sh_322 ⟨by decide, rfl⟩ (by decide) (Nat.zero_le _) (Nat.zero_le _) (Nat.le_of_ble_eq_true rfl) (c_X12_draw hR 100 (show 0 < 100 from (by omega)) (show 100 < 1000 from (by omega))) ?_
    refine am_aload_n (pc := 16) C dX12_shoots_16 rfl ?_
    refine am_iconstN (pc := 17) (k := 0) C dX12_shoots_17 ?_
    refine am_iload_n (pc := 18) C dX12_shoots_18 rfl ?_
    refine am_callVij (Y := mX12_says) (pc := 19) (st := [.int (nI (rf_dr (h 323) % 100))]) (As := [.int (nI 0), .int (nI s)]) (x := (nI (rf_says (rf_draw (h 323)) 0 s))) (H2 := fun GG => (am_row (am_row (am_row h 330 (h 330)) 323 (rf_draw (h 323))) 330 (GG 330))) C dX12_shoots_19 k12_343 v_X12_says rfl rfl bn_322 sh_322 ⟨by decide, rfl⟩ (by decide) (Nat.zero_le _) (Nat.zero_le _) (Nat.le_of_ble_eq_true rfl) (c_X12_says hR 0 s (show rf_I (rf_draw (h 323)) from hd1) (show s < rf_S (rf_draw (h 323)) from (by rw [rf_Eq_draw.S]; exact hs)) (show rf_Lw (rf_draw (h 323)) from (rf_Eq_draw.L hL)) (show 0 < 3 from (by omega))) (fun g19_2 => ?_)
    refine am_hp (show (am_row (am_row (am_row h 330 (h 330)) 323 (rf_draw (h 323))) 330 (g19_2 330)) = (am_row (am_row h 330 (g19_2 330)) 323 (rf_draw (h 323))) from am_row_s1 (by decide)) ?_
    refine am_icmp_ltN (pc := 22) (tgt := 26) C dX12_shoots_22 (by decide) (by omega) (by omega) (fun q22 => ?_) (fun q22 => ?_)
    · skip
      refine am_lsv (ls' := [(0, .ref 322), (1, .int (nI s)), (2, .int (nI (rf_target (h 323) s - 1)))]) (by rw [show (am_oi (rf_target (h 323) s)) = (nI (rf_target (h 323) s - 1)) from am_oi_p q7]) ?_
      refine am_aload_n (pc := 26) C dX12_shoots_26 rfl ?_
      refine am_iload_n (pc := 27) C dX12_shoots_27 rfl ?_
      refine am_iload_n (pc := 28) C dX12_shoots_28 rfl ?_
      refine am_aload_n (pc := 29) C dX12_shoots_29 rfl ?_
      refine am_bipush (pc := 30) (v := nI 100) C dX12_shoots_30 (by decide) ?_
      refine am_callVi (Y := mX12_draw) (pc := 32) (st := [.int (nI (rf_target (h 323) s - 1)), .int (nI s), .ref 322]) (As := [.int (nI 100)]) (x := (nI (rf_dr (rf_draw (h 323)) % 100))) (h2 := (am_row (am_row (am_row h 330 (g19_2 330)) 323 (rf_draw (h 323))) 323 (rf_draw (rf_draw (h 323))))) C dX12_shoots_32 k12_369 v_X12_draw rfl rfl bn_322 sh_322 ⟨by decide, rfl⟩ (by decide) (Nat.zero_le _) (Nat.zero_le _) (Nat.le_of_ble_eq_true rfl) (c_X12_draw hR 100 (show 0 < 100 from (by omega)) (show 100 < 1000 from (by omega))) ?_
      refine am_hp (show (am_row (am_row (am_row h 330 (g19_2 330)) 323 (rf_draw (h 323))) 323 (rf_draw (rf_draw (h 323)))) = (am_row (am_row h 330 (g19_2 330)) 323 (rf_draw (rf_draw (h 323)))) from am_row_s0) ?_
      refine am_aload_n (pc := 35) C dX12_shoots_35 rfl ?_
      refine am_iconstN (pc := 36) (k := 1) C dX12_shoots_36 ?_
      refine am_iload_n (pc := 37) C dX12_shoots_37 rfl ?_
      refine am_callVij (Y := mX12_says) (pc := 38) (st := [.int (nI (rf_dr (rf_draw (h 323)) % 100)), .int (nI (rf_target (h 323) s - 1)), .int (nI s), .ref 322]) (As := [.int (nI 1), .int (nI s)]) (x := (nI (rf_says (rf_draw (rf_draw (h 323))) 1 s))) (H2 := fun GG => (am_row (am_row (am_row h 330 (g19_2 330)) 323 (rf_draw (rf_draw (h 323)))) 330 (GG 330))) C dX12_shoots_38 k12_343 v_X12_says rfl rfl bn_322 sh_322 ⟨by decide, rfl⟩ (by decide) (Nat.zero_le _) (Nat.zero_le _) (Nat.le_of_ble_eq_true rfl) (c_X12_says hR 1 s (show rf_I (rf_draw (rf_draw (h 323))) from hd2) (show s < rf_S (rf_draw (rf_draw (h 323))) from (by rw [hE2.S]; exact hs)) (show rf_Lw (rf_draw (rf_draw (h 323))) from (hE2.L hL)) (show 1 < 3 from (by omega))) (fun g38_4 => ?_)
      refine am_hp (show (am_row (am_row (am_row h 330 (g19_2 330)) 323 (rf_draw (rf_draw (h 323)))) 330 (g38_4 330)) = (am_row (am_row h 330 (g38_4 330)) 323 (rf_draw (rf_draw (h 323)))) from am_row_s1 (by decide)) ?_
      refine am_icmp_geN (pc := 41) (tgt := 48) C dX12_shoots_41 (by decide) (by omega) (by omega) (fun q41 => ?_) (fun q41 => ?_)
      · skip
        refine am_iconstN (pc := 48) (k := 0) C dX12_shoots_48 ?_
        refine am_top (show (nI 0) = (am_b (decide (rf_dr (rf_draw (h 323)) % 100 < rf_says (rf_draw (rf_draw (h 323))) 1 s))) from (by first | (rw [decide_eq_true q41]; rfl) | (rw [decide_eq_false (Nat.not_lt.mpr q41)]; rfl))) ?_
        refine am_callVi (Y := mX12_hits) (pc := 49) (st := []) (As := [.int (nI s), .int (nI (rf_target (h 323) s - 1)), .int (am_b (decide (rf_dr (rf_draw (h 323)) % 100 < rf_says (rf_draw (rf_draw (h 323))) 1 s)))]) (x := (nI (rf_takes (rf_draw (rf_draw (h 323))) (rf_target (h 323) s - 1) (decide (rf_dr (rf_draw (h 323)) % 100 < rf_says (rf_draw (rf_draw (h 323))) 1 s)) - 1))) (h2 := (am_row (am_row (am_row h 330 (g38_4 330)) 323 (rf_draw (rf_draw (h 323)))) 323 (rf_hit (rf_draw (rf_draw (h 323))) s (rf_target (h 323) s - 1) (decide (rf_dr (rf_draw (h 323)) % 100 < rf_says (rf_draw (rf_draw (h 323))) 1 s))))) C dX12_shoots_49 k12_372 v_X12_hits rfl rfl bn_322 sh_322 ⟨by decide, rfl⟩ (by decide) (Nat.zero_le _) (Nat.zero_le _) (Nat.le_of_ble_eq_true rfl) (c_X12_hits hR s (rf_target (h 323) s - 1) (decide (rf_dr (rf_draw (h 323)) % 100 < rf_says (rf_draw (rf_draw (h 323))) 1 s)) (show rf_I (rf_draw (rf_draw (h 323))) from hd2) (show s < rf_S (rf_draw (rf_draw (h 323))) from (by rw [hE2.S]; exact hs)) (show (rf_target (h 323) s - 1) < rf_S (rf_draw (rf_draw (h 323))) from (by rw [hE2.S]; exact (rf_target_ok q7).1)) (show 0 < rf_kn (rf_draw (rf_draw (h 323))) (rf_target (h 323) s - 1) from (by rw [rf_kn_draw, rf_kn_draw]; exact (rf_target_ok q7).2))) ?_
        refine am_hp (show (am_row (am_row (am_row h 330 (g38_4 330)) 323 (rf_draw (rf_draw (h 323)))) 323 (rf_hit (rf_draw (rf_draw (h 323))) s (rf_target (h 323) s - 1) (decide (rf_dr (rf_draw (h 323)) % 100 < rf_says (rf_draw (rf_draw (h 323))) 1 s)))) = (am_row (am_row h 330 (g38_4 330)) 323 (rf_hit (rf_draw (rf_draw (h 323))) s (rf_target (h 323) s - 1) (decide (rf_dr (rf_draw (h 323)) % 100 < rf_says (rf_draw (rf_draw (h 323))) 1 s)))) from am_row_s0) ?_
        refine am_pop (pc := 52) C dX12_shoots_52 rfl ?_
        exact am_vretvj (G := (am_row h 330 (g38_4 330))) T dX12_shoots_53 rfl (Nat.le_refl _) (Nat.le_refl _) rfl (by rw [rf_shoot, if_neg (by omega), if_pos q22]; rfl)
      · skip
        refine am_iconstN (pc := 44) (k := 1) C dX12_shoots_44 ?_
        refine am_goto (pc := 45) (tgt := 49) C dX12_shoots_45 (by decide) ?_
        refine am_top (show (nI 1) = (am_b (decide (rf_dr (rf_draw (h 323)) % 100 < rf_says (rf_draw (rf_draw (h 323))) 1 s))) from (by first | (rw [decide_eq_true q41]; rfl) | (rw [decide_eq_false (Nat.not_lt.mpr q41)]; rfl))) ?_
        refine am_callVi (Y := mX12_hits) (pc := 49) (st := []) (As := [.int (nI s), .int (nI (rf_target (h 323) s - 1)), .int (am_b (decide (rf_dr (rf_draw (h 323)) % 100 < rf_says (rf_draw (rf_draw (h 323))) 1 s)))]) (x := (nI (rf_takes (rf_draw (rf_draw (h 323))) (rf_target (h 323) s - 1) (decide (rf_dr (rf_draw (h 323)) % 100 < rf_says (rf_draw (rf_draw (h 323))) 1 s)) - 1))) (h2 := (am_row (am_row (am_row h 330 (g38_4 330)) 323 (rf_draw (rf_draw (h 323)))) 323 (rf_hit (rf_draw (rf_draw (h 323))) s (rf_target (h 323) s - 1) (decide (rf_dr (rf_draw (h 323)) % 100 < rf_says (rf_draw (rf_draw (h 323))) 1 s))))) C dX12_shoots_49 k12_372 v_X12_hits rfl rfl bn_322 sh_322 ⟨by decide, rfl⟩ (by decide) (Nat.zero_le _) (Nat.zero_le _) (Nat.le_of_ble_eq_true rfl) (c_X12_hits hR s (rf_target (h 323) s - 1) (decide (rf_dr (rf_draw (h 323)) % 100 < rf_says (rf_draw (rf_draw (h 323))) 1 s)) (show rf_I (rf_draw (rf_draw (h 323))) from hd2) (show s < rf_S (rf_draw (rf_draw (h 323))) from (by rw [hE2.S]; exact hs)) (show (rf_target (h 323) s - 1) < rf_S (rf_draw (rf_draw (h 323))) from (by rw [hE2.S]; exact (rf_target_ok q7).1)) (show 0 < rf_kn (rf_draw (rf_draw (h 323))) (rf_target (h 323) s - 1) from (by rw [rf_kn_draw, rf_kn_draw]; exact (rf_target_ok q7).2))) ?_
        refine am_hp (show (am_row (am_row (am_row h 330 (g38_4 330)) 323 (rf_draw (rf_draw (h 323)))) 323 (rf_hit (rf_draw (rf_draw (h 323))) s (rf_target (h 323) s - 1) (decide (rf_dr (rf_draw (h 323)) % 100 < rf_says (rf_draw (rf_draw (h 323))) 1 s)))) = (am_row (am_row h 330 (g38_4 330)) 323 (rf_hit (rf_draw (rf_draw (h 323))) s (rf_target (h 323) s - 1) (decide (rf_dr (rf_draw (h 323)) % 100 < rf_says (rf_draw (rf_draw (h 323))) 1 s)))) from am_row_s0) ?_
        refine am_pop (pc := 52) C dX12_shoots_52 rfl ?_
        exact am_vretvj (G := (am_row h 330 (g38_4 330))) T dX12_shoots_53 rfl (Nat.le_refl _) (Nat.le_refl _) rfl (by rw [rf_shoot, if_neg (by omega), if_pos q22]; rfl)
    · skip
      exact am_vretvj (G := (am_row h 330 (g19_2 330))) T dX12_shoots_25 rfl (Nat.le_refl _) (Nat.le_refl _) rfl (by rw [rf_shoot, if_neg (by omega), if_neg (by omega)]; rfl)

set_option maxHeartbeats 400000 in
set_option maxRecDepth 100000 in
theorem c_X12_hour {ad : Nat → Nat} {r : am_R} (hR : am_rs r) {h : am_H}  (hV : rf_I (h 323)) (hL : rf_Lw (h 323))  : am_CM mX12_hour 8 0 0 [.ref 322] (am_VV ad) r h (am_pj none r (fun G => (am_row (am_row h 330 (G 330)) 323 (rf_hour (h 323))))) := by
  refine am_CM.of (by decide +kernel) (Nat.le_of_ble_eq_true rfl) (fun X C T => ?_)
  show am_G X (am_VV ad) (0, 0) 0 [(0, .ref 322)] [] r h
  have hM9 : rf_M (h 323) < 17 := hV.1.1.2
  have hS9 : rf_S (h 323) < 11 := hV.1.2.1.2
  have hO9 : rf_O (h 323) < 11 := hV.1.2.2.2
  refine am_hp (show h = (am_row h 330 (h 330)) from (am_row_id _ _).symm) ?_
  refine am_iconstN (pc := 0) (k := 0) C dX12_hour_0 ?_
  refine am_istore_n (pc := 1) (ls' := [(0, .ref 322), (1, .int (nI 0))]) C dX12_hour_1 (by decide) rfl ?_
  have L2 : ∀ (j2 i2 : Nat) (g2 : am_H), i2 + j2 = rf_S (h 323) → am_G X (am_VV ad) (0, 0) 2 [(0, .ref 322), (1, .int (nI i2))] [] r (am_row (am_row h 330 (g2 330)) 323 (rf_goon (h 323) i2)) := by
    intro j2
    induction j2 with
    | zero =>
      intro i2 g2 hi2 
      obtain rfl : i2 = rf_S (h 323) := by omega
      have okA := rf_goon_ok hV (rf_S (h 323)) (Nat.le_refl _)
      refine am_iload_n (pc := 2) C dX12_hour_2 rfl ?_
      refine am_aload_n (pc := 3) C dX12_hour_3 rfl ?_
      refine am_callVi (Y := mX12_soldiers) (pc := 4) (st := [.int (nI (rf_S (h 323)))]) (As := []) (x := (nI (rf_S (rf_goon (h 323) (rf_S (h 323)))))) (h2 := (am_row (am_row h 330 (g2 330)) 323 (rf_goon (h 323) (rf_S (h 323))))) C dX12_hour_4 k12_75 v_X12_soldiers rfl rfl bn_322 sh_322 ⟨by decide, rfl⟩ (by decide) (Nat.zero_le _) (Nat.zero_le _) (Nat.le_of_ble_eq_true rfl) (c_X12_soldiers hR (show rf_Cn (rf_goon (h 323) (rf_S (h 323))) from okA.1.1)) ?_
      refine am_top (show (nI (rf_S (rf_goon (h 323) (rf_S (h 323))))) = (nI (rf_S (h 323))) from (congrArg nI okA.2.S)) ?_
      refine am_icmp_geN (pc := 7) (tgt := 37) C dX12_hour_7 (by decide) (by omega) (by omega) (fun q7 => ?_) (fun q7 => ?_)
      · skip
        refine am_iconstN (pc := 37) (k := 0) C dX12_hour_37 ?_
        refine am_istore_n (pc := 38) (ls' := [(0, .ref 322), (1, .int (nI 0))]) C dX12_hour_38 (by decide) rfl ?_
        have L39 : ∀ (j39 i39 : Nat) (g39 : am_H), i39 + j39 = rf_S (h 323) → am_G X (am_VV ad) (0, 0) 39 [(0, .ref 322), (1, .int (nI i39))] [] r (am_row (am_row h 330 (g39 330)) 323 (rf_shs (rf_goon (h 323) (rf_S (h 323))) i39)) := by
          intro j39
          induction j39 with
          | zero =>
            intro i39 g39 hi39 
            obtain rfl : i39 = rf_S (h 323) := by omega
            have okB := rf_shs_ok okA.1 (rf_S (h 323)) (by rw [okA.2.S]; exact Nat.le_refl _)
            refine am_iload_n (pc := 39) C dX12_hour_39 rfl ?_
            refine am_aload_n (pc := 40) C dX12_hour_40 rfl ?_
            refine am_callVi (Y := mX12_soldiers) (pc := 41) (st := [.int (nI (rf_S (h 323)))]) (As := []) (x := (nI (rf_S (rf_shs (rf_goon (h 323) (rf_S (h 323))) (rf_S (h 323)))))) (h2 := (am_row (am_row h 330 (g39 330)) 323 (rf_shs (rf_goon (h 323) (rf_S (h 323))) (rf_S (h 323))))) C dX12_hour_41 k12_75 v_X12_soldiers rfl rfl bn_322 sh_322 ⟨by decide, rfl⟩ (by decide) (Nat.zero_le _) (Nat.zero_le _) (Nat.le_of_ble_eq_true rfl) (c_X12_soldiers hR (show rf_Cn (rf_shs (rf_goon (h 323) (rf_S (h 323))) (rf_S (h 323))) from okB.1.1)) ?_
            refine am_top (show (nI (rf_S (rf_shs (rf_goon (h 323) (rf_S (h 323))) (rf_S (h 323))))) = (nI (rf_S (h 323))) from (congrArg nI (okA.2.tr okB.2).S)) ?_
            refine am_icmp_geN (pc := 44) (tgt := 58) C dX12_hour_44 (by decide) (by omega) (by omega) (fun q44 => ?_) (fun q44 => ?_)
            · skip
              refine am_iconstN (pc := 58) (k := 0) C dX12_hour_58 ?_
              refine am_istore_n (pc := 59) (ls' := [(0, .ref 322), (1, .int (nI 0))]) C dX12_hour_59 (by decide) rfl ?_
              have L60 : ∀ (j60 i60 : Nat) (g60 : am_H), i60 + j60 = rf_S (h 323) → am_G X (am_VV ad) (0, 0) 60 [(0, .ref 322), (1, .int (nI i60))] [] r (am_row (am_row h 330 (g60 330)) 323 (rf_rds (rf_shs (rf_goon (h 323) (rf_S (h 323))) (rf_S (h 323))) i60)) := by
                intro j60
                induction j60 with
                | zero =>
                  intro i60 g60 hi60 
                  obtain rfl : i60 = rf_S (h 323) := by omega
                  have okD := rf_rds_ok okB.1 (rf_S (h 323)) (by rw [(okA.2.tr okB.2).S]; exact Nat.le_refl _)
                  have hED := (okA.2.tr okB.2).tr okD.2
                  refine am_iload_n (pc := 60) C dX12_hour_60 rfl ?_
                  refine am_aload_n (pc := 61) C dX12_hour_61 rfl ?_
                  refine am_callVi (Y := mX12_soldiers) (pc := 62) (st := [.int (nI (rf_S (h 323)))]) (As := []) (x := (nI (rf_S (rf_rds (rf_shs (rf_goon (h 323) (rf_S (h 323))) (rf_S (h 323))) (rf_S (h 323)))))) (h2 := (am_row (am_row h 330 (g60 330)) 323 (rf_rds (rf_shs (rf_goon (h 323) (rf_S (h 323))) (rf_S (h 323))) (rf_S (h 323))))) C dX12_hour_62 k12_75 v_X12_soldiers rfl rfl bn_322 sh_322 ⟨by decide, rfl⟩ (by decide) (Nat.zero_le _) (Nat.zero_le _) (Nat.le_of_ble_eq_true rfl) (c_X12_soldiers hR (show rf_Cn (rf_rds (rf_shs (rf_goon (h 323) (rf_S (h 323))) (rf_S (h 323))) (rf_S (h 323))) from okD.1.1)) ?_
                  refine am_top (show (nI (rf_S (rf_rds (rf_shs (rf_goon (h 323) (rf_S (h 323))) (rf_S (h 323))) (rf_S (h 323))))) = (nI (rf_S (h 323))) from (congrArg nI hED.S)) ?_
                  refine am_icmp_geN (pc := 65) (tgt := 100) C dX12_hour_65 (by decide) (by omega) (by omega) (fun q65 => ?_) (fun q65 => ?_)
                  · skip
                    refine am_aload_n (pc := 100) C dX12_hour_100 rfl ?_
                    refine am_getR (pc := 101) (j := 323) C dX12_hour_101 f12_13 bn_322 sh_322 (rf_322_1 hR) ?_
                    refine am_iconstN (pc := 104) (k := 5) C dX12_hour_104 ?_
                    refine am_dup2 (pc := 105) C dX12_hour_105 rfl rfl ?_
                    refine am_iaload (pc := 106) C dX12_hour_106 bn_323 sh_323 (vp_in_nI (by omega) (by decide)) ?_
                    refine am_top (show (rf_rds (rf_shs (rf_goon (h 323) (rf_S (h 323))) (rf_S (h 323))) (rf_S (h 323))) (nI 5).toNatClampNeg = (rf_rds (rf_shs (rf_goon (h 323) (rf_S (h 323))) (rf_S (h 323))) (rf_S (h 323))) 5 from by rw [nI_clamp (by omega)]) ?_
                    refine am_iconstN (pc := 107) (k := 1) C dX12_hour_107 ?_
                    refine am_iadd (pc := 108) C dX12_hour_108 ?_
                    refine am_iastore (pc := 109) C dX12_hour_109 bn_323 sh_323 (vp_in_nI (by omega) (by decide)) ?_
                    refine am_hp (show am_up (am_row (am_row h 330 (g60 330)) 323 (rf_rds (rf_shs (rf_goon (h 323) (rf_S (h 323))) (rf_S (h 323))) (rf_S (h 323)))) 323 (nI 5).toNatClampNeg (((rf_rds (rf_shs (rf_goon (h 323) (rf_S (h 323))) (rf_S (h 323))) (rf_S (h 323))) 5) + (nI 1)) = am_row (am_row (am_row h 330 (g60 330)) 323 (rf_rds (rf_shs (rf_goon (h 323) (rf_S (h 323))) (rf_S (h 323))) (rf_S (h 323)))) 323 (upd (rf_rds (rf_shs (rf_goon (h 323) (rf_S (h 323))) (rf_S (h 323))) (rf_S (h 323))) 5 (((rf_rds (rf_shs (rf_goon (h 323) (rf_S (h 323))) (rf_S (h 323))) (rf_S (h 323))) 5) + (nI 1))) from by rw [nI_clamp (by omega)]; exact am_up_rw _ _ _ _) ?_
                    refine am_hp (show am_row (am_row (am_row h 330 (g60 330)) 323 (rf_rds (rf_shs (rf_goon (h 323) (rf_S (h 323))) (rf_S (h 323))) (rf_S (h 323)))) 323 (upd (rf_rds (rf_shs (rf_goon (h 323) (rf_S (h 323))) (rf_S (h 323))) (rf_S (h 323))) 5 (((rf_rds (rf_shs (rf_goon (h 323) (rf_S (h 323))) (rf_S (h 323))) (rf_S (h 323))) 5) + (nI 1))) = (am_row (am_row h 330 (g60 330)) 323 (upd (rf_rds (rf_shs (rf_goon (h 323) (rf_S (h 323))) (rf_S (h 323))) (rf_S (h 323))) 5 (((rf_rds (rf_shs (rf_goon (h 323) (rf_S (h 323))) (rf_S (h 323))) (rf_S (h 323))) 5) + (nI 1)))) from am_row_s0) ?_
                    exact am_vretvj (G := (am_row h 330 (g60 330))) T dX12_hour_110 rfl (Nat.le_refl _) (Nat.le_refl _) rfl rfl
                  · skip
                    exact absurd q65 (by omega)
                | succ j60 ih60 =>
                  intro i60 g60 hi60 
                  have hl60 : i60 < rf_S (h 323) := by omega
                  have okD := rf_rds_ok okB.1 i60 (by rw [(okA.2.tr okB.2).S]; omega)
                  have hED := (okA.2.tr okB.2).tr okD.2
                  have hsy3 : rf_says (rf_rds (rf_shs (rf_goon (h 323) (rf_S (h 323))) (rf_S (h 323))) i60) 2 i60 ≤ 100 := rf_says_le
                  refine am_iload_n (pc := 60) C dX12_hour_60 rfl ?_
                  refine am_aload_n (pc := 61) C dX12_hour_61 rfl ?_
                  refine am_callVi (Y := mX12_soldiers) (pc := 62) (st := [.int (nI i60)]) (As := []) (x := (nI (rf_S (rf_rds (rf_shs (rf_goon (h 323) (rf_S (h 323))) (rf_S (h 323))) i60)))) (h2 := (am_row (am_row h 330 (g60 330)) 323 (rf_rds (rf_shs (rf_goon (h 323) (rf_S (h 323))) (rf_S (h 323))) i60))) C dX12_hour_62 k12_75 v_X12_soldiers rfl rfl bn_322 sh_322 ⟨by decide, rfl⟩ (by decide) (Nat.zero_le _) (Nat.zero_le _) (Nat.le_of_ble_eq_true rfl) (c_X12_soldiers hR (show rf_Cn (rf_rds (rf_shs (rf_goon (h 323) (rf_S (h 323))) (rf_S (h 323))) i60) from okD.1.1)) ?_
                  refine am_top (show (nI (rf_S (rf_rds (rf_shs (rf_goon (h 323) (rf_S (h 323))) (rf_S (h 323))) i60))) = (nI (rf_S (h 323))) from (congrArg nI hED.S)) ?_
                  refine am_icmp_geN (pc := 65) (tgt := 100) C dX12_hour_65 (by decide) (by omega) (by omega) (fun q65 => ?_) (fun q65 => ?_)
                  · skip
                    exact absurd q65 (by omega)
                  · skip
                    refine am_aload_n (pc := 68) C dX12_hour_68 rfl ?_
                    refine am_iload_n (pc := 69) C dX12_hour_69 rfl ?_
                    refine am_bipush (pc := 70) (v := nI 22) C dX12_hour_70 (by decide) ?_
                    refine am_callVi (Y := mX12_of) (pc := 72) (st := []) (As := [.int (nI i60), .int (nI 22)]) (x := (rf_of (rf_rds (rf_shs (rf_goon (h 323) (rf_S (h 323))) (rf_S (h 323))) i60) i60 22)) (h2 := (am_row (am_row h 330 (g60 330)) 323 (rf_rds (rf_shs (rf_goon (h 323) (rf_S (h 323))) (rf_S (h 323))) i60))) C dX12_hour_72 k12_63 v_X12_of rfl rfl bn_322 sh_322 ⟨by decide, rfl⟩ (by decide) (Nat.zero_le _) (Nat.zero_le _) (Nat.le_of_ble_eq_true rfl) (c_X12_of hR i60 22 (show i60 < 11 from (by omega)) (show 22 < 23 from (by omega))) ?_
                    refine am_if_eq (pc := 75) (tgt := 94) C dX12_hour_75 (by decide) (fun q75 => ?_) (fun q75 => ?_)
                    · skip
                      refine am_iincN (pc := 94) (ls' := [(0, .ref 322), (1, .int (nI (i60 + 1)))]) C dX12_hour_94 rfl (am_up1 _) (by decide) rfl ?_
                      refine am_goto (pc := 97) (tgt := 60) C dX12_hour_97 (by decide) ?_
                      refine am_hp (show (am_row (am_row h 330 (g60 330)) 323 (rf_rds (rf_shs (rf_goon (h 323) (rf_S (h 323))) (rf_S (h 323))) i60)) = (am_row (am_row h 330 (g60 330)) 323 (rf_rds (rf_shs (rf_goon (h 323) (rf_S (h 323))) (rf_S (h 323))) (i60 + 1))) from congrArg (am_row _ 323) (by rw [rf_rds, if_neg (fun z => z.1 q75)])) ?_
                      exact ih60 (i60 + 1) (am_row h 330 (g60 330)) (by omega) 
                    · skip
                      refine am_aload_n (pc := 78) C dX12_hour_78 rfl ?_
                      refine am_iconstN (pc := 79) (k := 2) C dX12_hour_79 ?_
                      refine am_iload_n (pc := 80) C dX12_hour_80 rfl ?_
                      refine am_callVij (Y := mX12_says) (pc := 81) (st := []) (As := [.int (nI 2), .int (nI i60)]) (x := (nI (rf_says (rf_rds (rf_shs (rf_goon (h 323) (rf_S (h 323))) (rf_S (h 323))) i60) 2 i60))) (H2 := fun GG => (am_row (am_row (am_row h 330 (g60 330)) 323 (rf_rds (rf_shs (rf_goon (h 323) (rf_S (h 323))) (rf_S (h 323))) i60)) 330 (GG 330))) C dX12_hour_81 k12_343 v_X12_says rfl rfl bn_322 sh_322 ⟨by decide, rfl⟩ (by decide) (Nat.zero_le _) (Nat.zero_le _) (Nat.le_of_ble_eq_true rfl) (c_X12_says hR 2 i60 (show rf_I (rf_rds (rf_shs (rf_goon (h 323) (rf_S (h 323))) (rf_S (h 323))) i60) from okD.1) (show i60 < rf_S (rf_rds (rf_shs (rf_goon (h 323) (rf_S (h 323))) (rf_S (h 323))) i60) from (by rw [hED.S]; exact hl60)) (show rf_Lw (rf_rds (rf_shs (rf_goon (h 323) (rf_S (h 323))) (rf_S (h 323))) i60) from (hED.L hL)) (show 2 < 3 from (by omega))) (fun g81_6 => ?_)
                      refine am_hp (show (am_row (am_row (am_row h 330 (g60 330)) 323 (rf_rds (rf_shs (rf_goon (h 323) (rf_S (h 323))) (rf_S (h 323))) i60)) 330 (g81_6 330)) = (am_row (am_row h 330 (g81_6 330)) 323 (rf_rds (rf_shs (rf_goon (h 323) (rf_S (h 323))) (rf_S (h 323))) i60)) from am_row_s1 (by decide)) ?_
                      refine am_iconstN (pc := 84) (k := 1) C dX12_hour_84 ?_
                      refine am_icmp_neN (pc := 85) (tgt := 94) C dX12_hour_85 (by decide) (by omega) (by omega) (fun q85 => ?_) (fun q85 => ?_)
                      · skip
                        refine am_iincN (pc := 94) (ls' := [(0, .ref 322), (1, .int (nI (i60 + 1)))]) C dX12_hour_94 rfl (am_up1 _) (by decide) rfl ?_
                        refine am_goto (pc := 97) (tgt := 60) C dX12_hour_97 (by decide) ?_
                        refine am_hp (show (am_row (am_row h 330 (g81_6 330)) 323 (rf_rds (rf_shs (rf_goon (h 323) (rf_S (h 323))) (rf_S (h 323))) i60)) = (am_row (am_row h 330 (g81_6 330)) 323 (rf_rds (rf_shs (rf_goon (h 323) (rf_S (h 323))) (rf_S (h 323))) (i60 + 1))) from congrArg (am_row _ 323) (by rw [rf_rds, if_neg (fun z => q85 z.2)])) ?_
                        exact ih60 (i60 + 1) (am_row h 330 (g81_6 330)) (by omega) 
                      · skip
                        refine am_aload_n (pc := 88) C dX12_hour_88 rfl ?_
                        refine am_iload_n (pc := 89) C dX12_hour_89 rfl ?_
                        refine am_callVi (Y := mX12_reads) (pc := 90) (st := []) (As := [.int (nI i60)]) (x := (nI ((rf_read (rf_rds (rf_shs (rf_goon (h 323) (rf_S (h 323))) (rf_S (h 323))) i60) i60).2))) (h2 := (am_row (am_row (am_row h 330 (g81_6 330)) 323 (rf_rds (rf_shs (rf_goon (h 323) (rf_S (h 323))) (rf_S (h 323))) i60)) 323 ((rf_read (rf_rds (rf_shs (rf_goon (h 323) (rf_S (h 323))) (rf_S (h 323))) i60) i60).1))) C dX12_hour_90 k12_379 v_X12_reads rfl rfl bn_322 sh_322 ⟨by decide, rfl⟩ (by decide) (Nat.zero_le _) (Nat.zero_le _) (Nat.le_of_ble_eq_true rfl) (c_X12_reads hR i60 (show rf_I (rf_rds (rf_shs (rf_goon (h 323) (rf_S (h 323))) (rf_S (h 323))) i60) from okD.1) (show i60 < rf_S (rf_rds (rf_shs (rf_goon (h 323) (rf_S (h 323))) (rf_S (h 323))) i60) from (by rw [hED.S]; exact hl60))) ?_
                        refine am_hp (show (am_row (am_row (am_row h 330 (g81_6 330)) 323 (rf_rds (rf_shs (rf_goon (h 323) (rf_S (h 323))) (rf_S (h 323))) i60)) 323 ((rf_read (rf_rds (rf_shs (rf_goon (h 323) (rf_S (h 323))) (rf_S (h 323))) i60) i60).1)) = (am_row (am_row h 330 (g81_6 330)) 323 ((rf_read (rf_rds (rf_shs (rf_goon (h 323) (rf_S (h 323))) (rf_S (h 323))) i60) i60).1)) from am_row_s0) ?_
                        refine am_pop (pc := 93) C dX12_hour_93 rfl ?_
                        refine am_iincN (pc := 94) (ls' := [(0, .ref 322), (1, .int (nI (i60 + 1)))]) C dX12_hour_94 rfl (am_up1 _) (by decide) rfl ?_
                        refine am_goto (pc := 97) (tgt := 60) C dX12_hour_97 (by decide) ?_
                        refine am_hp (show (am_row (am_row h 330 (g81_6 330)) 323 ((rf_read (rf_rds (rf_shs (rf_goon (h 323) (rf_S (h 323))) (rf_S (h 323))) i60) i60).1)) = (am_row (am_row h 330 (g81_6 330)) 323 (rf_rds (rf_shs (rf_goon (h 323) (rf_S (h 323))) (rf_S (h 323))) (i60 + 1))) from congrArg (am_row _ 323) (by rw [rf_rds, if_pos ⟨q75, q85⟩])) ?_
                        exact ih60 (i60 + 1) (am_row h 330 (g81_6 330)) (by omega) 
              refine am_hp (show (am_row (am_row h 330 (g39 330)) 323 (rf_shs (rf_goon (h 323) (rf_S (h 323))) (rf_S (h 323)))) = (am_row (am_row h 330 (g39 330)) 323 (rf_rds (rf_shs (rf_goon (h 323) (rf_S (h 323))) (rf_S (h 323))) 0)) from rfl) ?_
              exact L60 (rf_S (h 323)) 0 (am_row h 330 (g39 330)) (by omega) 
            · skip
              exact absurd q44 (by omega)
          | succ j39 ih39 =>
            intro i39 g39 hi39 
            have hl39 : i39 < rf_S (h 323) := by omega
            have okB := rf_shs_ok okA.1 i39 (by rw [okA.2.S]; omega)
            refine am_iload_n (pc := 39) C dX12_hour_39 rfl ?_
            refine am_aload_n (pc := 40) C dX12_hour_40 rfl ?_
            refine am_callVi (Y := mX12_soldiers) (pc := 41) (st := [.int (nI i39)]) (As := []) (x := (nI (rf_S (rf_shs (rf_goon (h 323) (rf_S (h 323))) i39)))) (h2 := (am_row (am_row h 330 (g39 330)) 323 (rf_shs (rf_goon (h 323) (rf_S (h 323))) i39))) C dX12_hour_41 k12_75 v_X12_soldiers rfl rfl bn_322 sh_322 ⟨by decide, rfl⟩ (by decide) (Nat.zero_le _) (Nat.zero_le _) (Nat.le_of_ble_eq_true rfl) (c_X12_soldiers hR (show rf_Cn (rf_shs (rf_goon (h 323) (rf_S (h 323))) i39) from okB.1.1)) ?_
            refine am_top (show (nI (rf_S (rf_shs (rf_goon (h 323) (rf_S (h 323))) i39))) = (nI (rf_S (h 323))) from (congrArg nI (okA.2.tr okB.2).S)) ?_
            refine am_icmp_geN (pc := 44) (tgt := 58) C dX12_hour_44 (by decide) (by omega) (by omega) (fun q44 => ?_) (fun q44 => ?_)
            · skip
              exact absurd q44 (by omega)
            · skip
              refine am_aload_n (pc := 47) C dX12_hour_47 rfl ?_
              refine am_iload_n (pc := 48) C dX12_hour_48 rfl ?_
              refine am_callVvj (Y := mX12_shoots) (pc := 49) (st := []) (As := [.int (nI i39)]) (H2 := fun GG => (am_row (am_row (am_row (am_row h 330 (g39 330)) 323 (rf_shs (rf_goon (h 323) (rf_S (h 323))) i39)) 330 (GG 330)) 323 (rf_shoot (rf_shs (rf_goon (h 323) (rf_S (h 323))) i39) i39))) C dX12_hour_49 k12_376 v_X12_shoots rfl rfl bn_322 sh_322 ⟨by decide, rfl⟩ (by decide) (Nat.zero_le _) (Nat.zero_le _) (Nat.le_of_ble_eq_true rfl) (c_X12_shoots hR i39 (show rf_I (rf_shs (rf_goon (h 323) (rf_S (h 323))) i39) from okB.1) (show i39 < rf_S (rf_shs (rf_goon (h 323) (rf_S (h 323))) i39) from (by rw [(okA.2.tr okB.2).S]; exact hl39)) (show rf_Lw (rf_shs (rf_goon (h 323) (rf_S (h 323))) i39) from ((okA.2.tr okB.2).L hL))) (fun g49_9 => ?_)
              refine am_hp (show (am_row (am_row (am_row (am_row h 330 (g39 330)) 323 (rf_shs (rf_goon (h 323) (rf_S (h 323))) i39)) 330 (g49_9 330)) 323 (rf_shoot (rf_shs (rf_goon (h 323) (rf_S (h 323))) i39) i39)) = (am_row (am_row (am_row h 330 (g49_9 330)) 323 (rf_shs (rf_goon (h 323) (rf_S (h 323))) i39)) 323 (rf_shoot (rf_shs (rf_goon (h 323) (rf_S (h 323))) i39) i39)) from by rw [show (am_row (am_row (am_row h 330 (g39 330)) 323 (rf_shs (rf_goon (h 323) (rf_S (h 323))) i39)) 330 (g49_9 330)) = (am_row (am_row h 330 (g49_9 330)) 323 (rf_shs (rf_goon (h 323) (rf_S (h 323))) i39)) from am_row_s1 (by decide)]) ?_
              refine am_hp (show (am_row (am_row (am_row h 330 (g49_9 330)) 323 (rf_shs (rf_goon (h 323) (rf_S (h 323))) i39)) 323 (rf_shoot (rf_shs (rf_goon (h 323) (rf_S (h 323))) i39) i39)) = (am_row (am_row h 330 (g49_9 330)) 323 (rf_shoot (rf_shs (rf_goon (h 323) (rf_S (h 323))) i39) i39)) from am_row_s0) ?_
              refine am_iincN (pc := 52) (ls' := [(0, .ref 322), (1, .int (nI (i39 + 1)))]) C dX12_hour_52 rfl (am_up1 _) (by decide) rfl ?_
              refine am_goto (pc := 55) (tgt := 39) C dX12_hour_55 (by decide) ?_
              refine am_hp (show (am_row (am_row h 330 (g49_9 330)) 323 (rf_shoot (rf_shs (rf_goon (h 323) (rf_S (h 323))) i39) i39)) = (am_row (am_row h 330 (g49_9 330)) 323 (rf_shs (rf_goon (h 323) (rf_S (h 323))) (i39 + 1))) from rfl) ?_
              exact ih39 (i39 + 1) (am_row h 330 (g49_9 330)) (by omega) 
        refine am_hp (show (am_row (am_row h 330 (g2 330)) 323 (rf_goon (h 323) (rf_S (h 323)))) = (am_row (am_row h 330 (g2 330)) 323 (rf_shs (rf_goon (h 323) (rf_S (h 323))) 0)) from rfl) ?_
        exact L39 (rf_S (h 323)) 0 (am_row h 330 (g2 330)) (by omega) 
      · skip
        exact absurd q7 (by omega)
    | succ j2 ih2 =>
      intro i2 g2 hi2 
      have hl2 : i2 < rf_S (h 323) := by omega
      have okA := rf_goon_ok hV i2 (by omega)
      have hIs2 := okA.1.2.1 i2 (by rw [okA.2.S]; exact hl2)
      have h7n := hIs2.2.1.2
      have h1n := hIs2.2.2.1.2
      have h7m : rf_ofn (rf_goon (h 323) i2) i2 2 < 7 := h7n
      have h1m : rf_ofn (rf_goon (h 323) i2) i2 1 < rf_ofn (rf_goon (h 323) i2) i2 2 := h1n
      have h0n : 0 < rf_ofn (rf_goon (h 323) i2) i2 2 := by omega
      refine am_iload_n (pc := 2) C dX12_hour_2 rfl ?_
      refine am_aload_n (pc := 3) C dX12_hour_3 rfl ?_
      refine am_callVi (Y := mX12_soldiers) (pc := 4) (st := [.int (nI i2)]) (As := []) (x := (nI (rf_S (rf_goon (h 323) i2)))) (h2 := (am_row (am_row h 330 (g2 330)) 323 (rf_goon (h 323) i2))) C dX12_hour_4 k12_75 v_X12_soldiers rfl rfl bn_322 sh_322 ⟨by decide, rfl⟩ (by decide) (Nat.zero_le _) (Nat.zero_le _) (Nat.le_of_ble_eq_true rfl) (c_X12_soldiers hR (show rf_Cn (rf_goon (h 323) i2) from okA.1.1)) ?_
      refine am_top (show (nI (rf_S (rf_goon (h 323) i2))) = (nI (rf_S (h 323))) from (congrArg nI okA.2.S)) ?_
      refine am_icmp_geN (pc := 7) (tgt := 37) C dX12_hour_7 (by decide) (by omega) (by omega) (fun q7 => ?_) (fun q7 => ?_)
      · skip
        exact absurd q7 (by omega)
      · skip
        refine am_aload_n (pc := 10) C dX12_hour_10 rfl ?_
        refine am_iload_n (pc := 11) C dX12_hour_11 rfl ?_
        refine am_iconstN (pc := 12) (k := 1) C dX12_hour_12 ?_
        refine am_aload_n (pc := 13) C dX12_hour_13 rfl ?_
        refine am_iload_n (pc := 14) C dX12_hour_14 rfl ?_
        refine am_iconstN (pc := 15) (k := 1) C dX12_hour_15 ?_
        refine am_callVi (Y := mX12_of) (pc := 16) (st := [.int (nI 1), .int (nI i2), .ref 322]) (As := [.int (nI i2), .int (nI 1)]) (x := (rf_of (rf_goon (h 323) i2) i2 1)) (h2 := (am_row (am_row h 330 (g2 330)) 323 (rf_goon (h 323) i2))) C dX12_hour_16 k12_63 v_X12_of rfl rfl bn_322 sh_322 ⟨by decide, rfl⟩ (by decide) (Nat.zero_le _) (Nat.zero_le _) (Nat.le_of_ble_eq_true rfl) (c_X12_of hR i2 1 (show i2 < 11 from (by omega)) (show 1 < 23 from (by omega))) ?_
        refine am_top (show (rf_of (rf_goon (h 323) i2) i2 1) = (nI (rf_ofn (rf_goon (h 323) i2) i2 1)) from hIs2.2.2.1.1) ?_
        refine am_iconstN (pc := 19) (k := 1) C dX12_hour_19 ?_
        refine am_iaddN (pc := 20) C dX12_hour_20 ?_
        refine am_aload_n (pc := 21) C dX12_hour_21 rfl ?_
        refine am_iload_n (pc := 22) C dX12_hour_22 rfl ?_
        refine am_iconstN (pc := 23) (k := 2) C dX12_hour_23 ?_
        refine am_callVi (Y := mX12_of) (pc := 24) (st := [.int (nI ((rf_ofn (rf_goon (h 323) i2) i2 1) + 1)), .int (nI 1), .int (nI i2), .ref 322]) (As := [.int (nI i2), .int (nI 2)]) (x := (rf_of (rf_goon (h 323) i2) i2 2)) (h2 := (am_row (am_row h 330 (g2 330)) 323 (rf_goon (h 323) i2))) C dX12_hour_24 k12_63 v_X12_of rfl rfl bn_322 sh_322 ⟨by decide, rfl⟩ (by decide) (Nat.zero_le _) (Nat.zero_le _) (Nat.le_of_ble_eq_true rfl) (c_X12_of hR i2 2 (show i2 < 11 from (by omega)) (show 2 < 23 from (by omega))) ?_
        refine am_top (show (rf_of (rf_goon (h 323) i2) i2 2) = (nI (rf_ofn (rf_goon (h 323) i2) i2 2)) from hIs2.2.1.1) ?_
        refine am_iremN (pc := 27) C dX12_hour_27 (by omega) (by omega) (by omega) ?_
        refine am_callVv (Y := mX12_sets) (pc := 28) (st := []) (As := [.int (nI i2), .int (nI 1), .int (nI (((rf_ofn (rf_goon (h 323) i2) i2 1) + 1) % (rf_ofn (rf_goon (h 323) i2) i2 2)))]) (h2 := (am_row (am_row (am_row h 330 (g2 330)) 323 (rf_goon (h 323) i2)) 323 (upd (rf_goon (h 323) i2) (61 + 23 * i2 + 1) (nI (((rf_ofn (rf_goon (h 323) i2) i2 1) + 1) % (rf_ofn (rf_goon (h 323) i2) i2 2)))))) C dX12_hour_28 k12_148 v_X12_sets rfl rfl bn_322 sh_322 ⟨by decide, rfl⟩ (by decide) (Nat.zero_le _) (Nat.zero_le _) (Nat.le_of_ble_eq_true rfl) (c_X12_sets hR i2 1 (nI (((rf_ofn (rf_goon (h 323) i2) i2 1) + 1) % (rf_ofn (rf_goon (h 323) i2) i2 2))) (show i2 < 11 from (by omega)) (show 1 < 23 from (by omega))) ?_
        refine am_hp (show (am_row (am_row (am_row h 330 (g2 330)) 323 (rf_goon (h 323) i2)) 323 (upd (rf_goon (h 323) i2) (61 + 23 * i2 + 1) (nI (((rf_ofn (rf_goon (h 323) i2) i2 1) + 1) % (rf_ofn (rf_goon (h 323) i2) i2 2))))) = (am_row (am_row h 330 (g2 330)) 323 (upd (rf_goon (h 323) i2) (61 + 23 * i2 + 1) (nI (((rf_ofn (rf_goon (h 323) i2) i2 1) + 1) % (rf_ofn (rf_goon (h 323) i2) i2 2))))) from am_row_s0) ?_
        refine am_iincN (pc := 31) (ls' := [(0, .ref 322), (1, .int (nI (i2 + 1)))]) C dX12_hour_31 rfl (am_up1 _) (by decide) rfl ?_
        refine am_goto (pc := 34) (tgt := 2) C dX12_hour_34 (by decide) ?_
        refine am_hp (show (am_row (am_row h 330 (g2 330)) 323 (upd (rf_goon (h 323) i2) (61 + 23 * i2 + 1) (nI (((rf_ofn (rf_goon (h 323) i2) i2 1) + 1) % (rf_ofn (rf_goon (h 323) i2) i2 2))))) = (am_row (am_row h 330 (g2 330)) 323 (rf_goon (h 323) (i2 + 1))) from rfl) ?_
        exact ih2 (i2 + 1) (am_row h 330 (g2 330)) (by omega) 
  refine am_hp (show (am_row h 330 (h 330)) = (am_row (am_row h 330 (h 330)) 323 (rf_goon (h 323) 0)) from (am_row_id _ _).symm) ?_
  exact L2 (rf_S (h 323)) 0 (am_row h 330 (h 330)) (by omega) 

