/-! THE CLASS: the fewest forgotten -/
section M24
theorem rf_known_lo {w : rf_W} {s : Nat} (hI : rf_Is w s) (hM : rf_M w < 17) : am_lo (rf_known w s) (rf_M w) := by
  intro j hj
  by_cases h32 : j < 32
  · cases hb : am_bt (rf_known w s) j with
    | false => rfl
    | true =>
      obtain ⟨k, hk, e⟩ := (rf_known_bt hI hM h32).mp hb
      have := (hI.2.2.2.2.2.1 k hk).2
      have h2 : rf_li w s k < rf_M w := this
      omega
  · exact BitVec.getLsbD_of_ge _ _ (by omega)
end M24

set_option maxHeartbeats 400000 in
set_option maxRecDepth 100000 in
theorem c_X6_fewestForgotten {ad : Nat → Nat} {r : am_R} (hR : am_rs r) {h : am_H} (s : Nat) (w : rf_W) (hV : rf_I w) (hLo : cl_Lo (h) 4 w) (hSc : cl_Sc (h) 25 w) (hs : s < rf_S w)  : am_CM mX6_fewestForgotten 2 0 0 [.ref 314, .int (nI s)] (am_VV ad) r h (am_po (some (.int (rf_am w (rf_known w s) (rf_nat (rf_known w s) + 1)))) r h) := by
  refine am_CM.of (by decide +kernel) (Nat.le_of_ble_eq_true rfl) (fun X C T => ?_)
  show am_G X (am_VV ad) (0, 0) 0 [(0, .ref 314), (1, .int (nI s))] [] r h
  have hM9 : rf_M w < 17 := hV.1.1.2
  have hS9 : rf_S w < 11 := hV.1.2.1.2
  have hO9 : rf_O w < 11 := hV.1.2.2.2
  have hk16 : am_lo (rf_known w s) 16 := am_lo_mono (rf_known_lo (hV.2.1 s hs) hM9) (by omega)
  have hu16 : am_lo (rf_use w s) 16 := am_lo_mono (rf_usable_lo hV) (by omega)
  have hb9 := rf_bc_le (rf_use w s)
  have hp9 : 2 ^ rf_bc (rf_use w s) ≤ 2 ^ 16 := Nat.pow_le_pow_right (by decide) hb9
  have hin := cl_bf_inv hV (known := rf_known w s)
  have hk12 : ∀ k, am_lo (cl_ss (rf_use w s) k) 16 := fun k => rf_sub_lo (cl_ss_sub k) hu16
  refine am_aload_n (pc := 0) C dX6_fewestForgotten_0 rfl ?_
  refine am_getR (pc := 1) (j := 25) C dX6_fewestForgotten_1 f6_26 bn_314 sh_314 (rf_314_2 hR) ?_
  refine am_getR (pc := 4) (j := 30) C dX6_fewestForgotten_4 f6_132 bn_25 sh_25 (rf_25_9 hR) ?_
  refine am_iload_n (pc := 7) C dX6_fewestForgotten_7 rfl ?_
  refine am_callSNi (Y := mX11_pick) (pc := 8) (st := []) (As := [.ref 30, .int (nI s)]) (x := ((h 30) s)) (h2 := h) C dX6_fewestForgotten_8 k6_40 v_X11_pick rfl rfl (by decide) (Nat.zero_le _) (Nat.zero_le _) (Nat.le_of_ble_eq_true rfl) (c_X11_pick 30 s 10 bn_30 sh_30 (show s < 10 from by omega) (by decide)) ?_
  refine am_top (show ((h 30) s) = (rf_use w s) from (hSc.2.1 s (by omega)).2.2.2.2.1) ?_
  refine am_istore_n (pc := 11) (ls' := [(0, .ref 314), (1, .int (nI s)), (2, .int (rf_use w s))]) C dX6_fewestForgotten_11 (by decide) rfl ?_
  refine am_iload_n (pc := 12) C dX6_fewestForgotten_12 rfl ?_
  refine am_callSi (Y := mJ6_bitCount_0f7a4) (pc := 13) (st := []) (As := [.int (rf_use w s)]) (x := (rf_pc (rf_use w s))) (h2 := h) C dX6_fewestForgotten_13 k6_83 v_J6_bitCount_0f7a4 rfl rfl (by decide) (Nat.zero_le _) (Nat.zero_le _) (Nat.le_of_ble_eq_true rfl) (c_J6_bitCount_0f7a4 hR (rf_use w s)) ?_
  refine am_top (show (rf_pc (rf_use w s)) = (nI (rf_bc (rf_use w s))) from (rf_pc_bc hu16)) ?_
  refine am_istore_n (pc := 16) (ls' := [(0, .ref 314), (1, .int (nI s)), (2, .int (rf_use w s)), (3, .int (nI (rf_bc (rf_use w s))))]) C dX6_fewestForgotten_16 (by decide) rfl ?_
  refine am_iload_n (pc := 17) C dX6_fewestForgotten_17 rfl ?_
  refine am_istore (pc := 18) (ls' := [(0, .ref 314), (1, .int (nI s)), (2, .int (rf_use w s)), (3, .int (nI (rf_bc (rf_use w s)))), (4, .int (rf_use w s))]) C dX6_fewestForgotten_18 (by decide) rfl ?_
  refine am_iconstN (pc := 20) (k := 0) C dX6_fewestForgotten_20 ?_
  refine am_istore (pc := 21) (ls' := [(0, .ref 314), (1, .int (nI s)), (2, .int (rf_use w s)), (3, .int (nI (rf_bc (rf_use w s)))), (4, .int (rf_use w s)), (5, .int (nI 0))]) C dX6_fewestForgotten_21 (by decide) rfl ?_
  refine am_iconstN (pc := 23) (k := 0) C dX6_fewestForgotten_23 ?_
  refine am_istore (pc := 24) (ls' := [(0, .ref 314), (1, .int (nI s)), (2, .int (rf_use w s)), (3, .int (nI (rf_bc (rf_use w s)))), (4, .int (rf_use w s)), (5, .int (nI 0)), (6, .int (nI 0))]) C dX6_fewestForgotten_24 (by decide) rfl ?_
  have L26 : ∀ (j26 i26 : Nat), i26 + j26 = (2 ^ rf_bc (rf_use w s)) → am_G X (am_VV ad) (0, 0) 26 [(0, .ref 314), (1, .int (nI s)), (2, .int (rf_use w s)), (3, .int (nI (rf_bc (rf_use w s)))), (4, .int (cl_bf w (rf_use w s) i26)), (5, .int (cl_ss (rf_use w s) i26)), (6, .int (nI i26))] [] r h := by
    intro j26
    induction j26 with
    | zero =>
      intro i26 hi26 
      obtain rfl : i26 = (2 ^ rf_bc (rf_use w s)) := by omega
      have hl9 := rf_bc_le (rf_use w s)
      refine am_iload (pc := 26) C dX6_fewestForgotten_26 rfl ?_
      refine am_iconstN (pc := 28) (k := 1) C dX6_fewestForgotten_28 ?_
      refine am_iload_n (pc := 29) C dX6_fewestForgotten_29 rfl ?_
      refine am_ishl (pc := 30) C dX6_fewestForgotten_30 ?_
      refine am_top (show ((nI 1) <<< ((nI (rf_bc (rf_use w s))) &&& 31)) = (nI (2 ^ rf_bc (rf_use w s))) from (rf_shl hb9)) ?_
      refine am_icmp_geN (pc := 31) (tgt := 79) C dX6_fewestForgotten_31 (by decide) (by omega) (by omega) (fun q31 => ?_) (fun q31 => ?_)
      · skip
        refine am_iload (pc := 79) C dX6_fewestForgotten_79 rfl ?_
        exact am_ireti T dX6_fewestForgotten_81 rfl (Nat.le_refl _) (Nat.le_refl _) (cl_bf_am hV hk16) rfl rfl
      · skip
        exact absurd q31 (by omega)
    | succ j26 ih26 =>
      intro i26 hi26 
      have hl26 : i26 < (2 ^ rf_bc (rf_use w s)) := by omega
      have hbl := rf_bc_le (cl_ss (rf_use w s) i26)
      have hbl2 := rf_bc_le (cl_bf w (rf_use w s) i26)
      have hblo : am_lo (cl_bf w (rf_use w s) i26) 16 := rf_sub_lo (hin i26).1 hu16
      refine am_iload (pc := 26) C dX6_fewestForgotten_26 rfl ?_
      refine am_iconstN (pc := 28) (k := 1) C dX6_fewestForgotten_28 ?_
      refine am_iload_n (pc := 29) C dX6_fewestForgotten_29 rfl ?_
      refine am_ishl (pc := 30) C dX6_fewestForgotten_30 ?_
      refine am_top (show ((nI 1) <<< ((nI (rf_bc (rf_use w s))) &&& 31)) = (nI (2 ^ rf_bc (rf_use w s))) from (rf_shl hb9)) ?_
      refine am_icmp_geN (pc := 31) (tgt := 79) C dX6_fewestForgotten_31 (by decide) (by omega) (by omega) (fun q31 => ?_) (fun q31 => ?_)
      · skip
        exact absurd q31 (by omega)
      · skip
        refine am_iload (pc := 34) C dX6_fewestForgotten_34 rfl ?_
        refine am_callSi (Y := mJ6_bitCount_0f7a4) (pc := 36) (st := []) (As := [.int (cl_ss (rf_use w s) i26)]) (x := (rf_pc (cl_ss (rf_use w s) i26))) (h2 := h) C dX6_fewestForgotten_36 k6_83 v_J6_bitCount_0f7a4 rfl rfl (by decide) (Nat.zero_le _) (Nat.zero_le _) (Nat.le_of_ble_eq_true rfl) (c_J6_bitCount_0f7a4 hR (cl_ss (rf_use w s) i26)) ?_
        refine am_top (show (rf_pc (cl_ss (rf_use w s) i26)) = (nI (rf_bc (cl_ss (rf_use w s) i26))) from (rf_pc_bc (hk12 i26))) ?_
        refine am_iload (pc := 39) C dX6_fewestForgotten_39 rfl ?_
        refine am_callSi (Y := mJ6_bitCount_0f7a4) (pc := 41) (st := [.int (nI (rf_bc (cl_ss (rf_use w s) i26)))]) (As := [.int (cl_bf w (rf_use w s) i26)]) (x := (rf_pc (cl_bf w (rf_use w s) i26))) (h2 := h) C dX6_fewestForgotten_41 k6_83 v_J6_bitCount_0f7a4 rfl rfl (by decide) (Nat.zero_le _) (Nat.zero_le _) (Nat.le_of_ble_eq_true rfl) (c_J6_bitCount_0f7a4 hR (cl_bf w (rf_use w s) i26)) ?_
        refine am_top (show (rf_pc (cl_bf w (rf_use w s) i26)) = (nI (rf_bc (cl_bf w (rf_use w s) i26))) from (rf_pc_bc hblo)) ?_
        refine am_icmp_geN (pc := 44) (tgt := 65) C dX6_fewestForgotten_44 (by decide) (by omega) (by omega) (fun q44 => ?_) (fun q44 => ?_)
        · skip
          refine am_iload (pc := 65) C dX6_fewestForgotten_65 rfl ?_
          refine am_iload_n (pc := 67) C dX6_fewestForgotten_67 rfl ?_
          refine am_isub (pc := 68) C dX6_fewestForgotten_68 ?_
          refine am_iload_n (pc := 69) C dX6_fewestForgotten_69 rfl ?_
          refine am_iand (pc := 70) C dX6_fewestForgotten_70 ?_
          refine am_istore (pc := 71) (ls' := [(0, .ref 314), (1, .int (nI s)), (2, .int (rf_use w s)), (3, .int (nI (rf_bc (rf_use w s)))), (4, .int (cl_bf w (rf_use w s) i26)), (5, .int (((cl_ss (rf_use w s) i26) - (rf_use w s)) &&& (rf_use w s))), (6, .int (nI i26))]) C dX6_fewestForgotten_71 (by decide) rfl ?_
          refine am_iincN (pc := 73) (ls' := [(0, .ref 314), (1, .int (nI s)), (2, .int (rf_use w s)), (3, .int (nI (rf_bc (rf_use w s)))), (4, .int (cl_bf w (rf_use w s) i26)), (5, .int (((cl_ss (rf_use w s) i26) - (rf_use w s)) &&& (rf_use w s))), (6, .int (nI (i26 + 1)))]) C dX6_fewestForgotten_73 rfl (am_up1 _) (by decide) rfl ?_
          refine am_goto (pc := 76) (tgt := 26) C dX6_fewestForgotten_76 (by decide) ?_
          refine am_lsv (ls' := [(0, .ref 314), (1, .int (nI s)), (2, .int (rf_use w s)), (3, .int (nI (rf_bc (rf_use w s)))), (4, .int (cl_bf w (rf_use w s) (i26 + 1))), (5, .int (((cl_ss (rf_use w s) i26) - (rf_use w s)) &&& (rf_use w s))), (6, .int (nI (i26 + 1)))]) (congrArg (fun z9 : Int32 => ([(0, .ref 314), (1, .int (nI s)), (2, .int (rf_use w s)), (3, .int (nI (rf_bc (rf_use w s)))), (4, Value.int z9), (5, .int (((cl_ss (rf_use w s) i26) - (rf_use w s)) &&& (rf_use w s))), (6, .int (nI (i26 + 1)))] : List (Nat × Value))) (show (cl_bf w (rf_use w s) i26) = (cl_bf w (rf_use w s) (i26 + 1)) from (by rw [cl_bf, if_neg (fun z => absurd z.1 (by omega))]))) ?_
          refine am_lsv (ls' := [(0, .ref 314), (1, .int (nI s)), (2, .int (rf_use w s)), (3, .int (nI (rf_bc (rf_use w s)))), (4, .int (cl_bf w (rf_use w s) (i26 + 1))), (5, .int (cl_ss (rf_use w s) (i26 + 1))), (6, .int (nI (i26 + 1)))]) (congrArg (fun z9 : Int32 => ([(0, .ref 314), (1, .int (nI s)), (2, .int (rf_use w s)), (3, .int (nI (rf_bc (rf_use w s)))), (4, .int (cl_bf w (rf_use w s) (i26 + 1))), (5, Value.int z9), (6, .int (nI (i26 + 1)))] : List (Nat × Value))) (show (((cl_ss (rf_use w s) i26) - (rf_use w s)) &&& (rf_use w s)) = (cl_ss (rf_use w s) (i26 + 1)) from rfl)) ?_
          exact ih26 (i26 + 1) (by omega) 
        · skip
          refine am_aload_n (pc := 47) C dX6_fewestForgotten_47 rfl ?_
          refine am_aload_n (pc := 48) C dX6_fewestForgotten_48 rfl ?_
          refine am_iload_n (pc := 49) C dX6_fewestForgotten_49 rfl ?_
          refine am_iload (pc := 50) C dX6_fewestForgotten_50 rfl ?_
          refine am_callVi (Y := mX6_leftOf) (pc := 52) (st := [.ref 314]) (As := [.int (rf_use w s), .int (cl_ss (rf_use w s) i26)]) (x := (cl_lf w (rf_use w s) (cl_ss (rf_use w s) i26) (rf_M w))) (h2 := h) C dX6_fewestForgotten_52 k6_135 v_X6_leftOf rfl rfl bn_314 sh_314 ⟨by decide, rfl⟩ (by decide) (Nat.zero_le _) (Nat.zero_le _) (Nat.le_of_ble_eq_true rfl) (c_X6_leftOf hR (rf_use w s) (cl_ss (rf_use w s) i26) w hV hLo hSc) ?_
          refine am_callVi (Y := mX6_isPeaceful) (pc := 55) (st := []) (As := [.int (cl_lf w (rf_use w s) (cl_ss (rf_use w s) i26) (rf_M w))]) (x := (am_b (rf_peace w (cl_lf w (rf_use w s) (cl_ss (rf_use w s) i26) (rf_M w))))) (h2 := h) C dX6_fewestForgotten_55 k6_138 v_X6_isPeaceful rfl rfl bn_314 sh_314 ⟨by decide, rfl⟩ (by decide) (Nat.zero_le _) (Nat.zero_le _) (Nat.le_of_ble_eq_true rfl) (c_X6_isPeaceful hR (cl_lf w (rf_use w s) (cl_ss (rf_use w s) i26) (rf_M w)) w hV hLo hSc) ?_
          refine am_if_eqB (pc := 58) (tgt := 65) C dX6_fewestForgotten_58 (by decide) (fun q58 => ?_) (fun q58 => ?_)
          · skip
            refine am_iload (pc := 65) C dX6_fewestForgotten_65 rfl ?_
            refine am_iload_n (pc := 67) C dX6_fewestForgotten_67 rfl ?_
            refine am_isub (pc := 68) C dX6_fewestForgotten_68 ?_
            refine am_iload_n (pc := 69) C dX6_fewestForgotten_69 rfl ?_
            refine am_iand (pc := 70) C dX6_fewestForgotten_70 ?_
            refine am_istore (pc := 71) (ls' := [(0, .ref 314), (1, .int (nI s)), (2, .int (rf_use w s)), (3, .int (nI (rf_bc (rf_use w s)))), (4, .int (cl_bf w (rf_use w s) i26)), (5, .int (((cl_ss (rf_use w s) i26) - (rf_use w s)) &&& (rf_use w s))), (6, .int (nI i26))]) C dX6_fewestForgotten_71 (by decide) rfl ?_
            refine am_iincN (pc := 73) (ls' := [(0, .ref 314), (1, .int (nI s)), (2, .int (rf_use w s)), (3, .int (nI (rf_bc (rf_use w s)))), (4, .int (cl_bf w (rf_use w s) i26)), (5, .int (((cl_ss (rf_use w s) i26) - (rf_use w s)) &&& (rf_use w s))), (6, .int (nI (i26 + 1)))]) C dX6_fewestForgotten_73 rfl (am_up1 _) (by decide) rfl ?_
            refine am_goto (pc := 76) (tgt := 26) C dX6_fewestForgotten_76 (by decide) ?_
            refine am_lsv (ls' := [(0, .ref 314), (1, .int (nI s)), (2, .int (rf_use w s)), (3, .int (nI (rf_bc (rf_use w s)))), (4, .int (cl_bf w (rf_use w s) (i26 + 1))), (5, .int (((cl_ss (rf_use w s) i26) - (rf_use w s)) &&& (rf_use w s))), (6, .int (nI (i26 + 1)))]) (congrArg (fun z9 : Int32 => ([(0, .ref 314), (1, .int (nI s)), (2, .int (rf_use w s)), (3, .int (nI (rf_bc (rf_use w s)))), (4, Value.int z9), (5, .int (((cl_ss (rf_use w s) i26) - (rf_use w s)) &&& (rf_use w s))), (6, .int (nI (i26 + 1)))] : List (Nat × Value))) (show (cl_bf w (rf_use w s) i26) = (cl_bf w (rf_use w s) (i26 + 1)) from (by rw [cl_bf, if_neg (fun z => Bool.false_ne_true (q58.symm.trans z.2))]))) ?_
            refine am_lsv (ls' := [(0, .ref 314), (1, .int (nI s)), (2, .int (rf_use w s)), (3, .int (nI (rf_bc (rf_use w s)))), (4, .int (cl_bf w (rf_use w s) (i26 + 1))), (5, .int (cl_ss (rf_use w s) (i26 + 1))), (6, .int (nI (i26 + 1)))]) (congrArg (fun z9 : Int32 => ([(0, .ref 314), (1, .int (nI s)), (2, .int (rf_use w s)), (3, .int (nI (rf_bc (rf_use w s)))), (4, .int (cl_bf w (rf_use w s) (i26 + 1))), (5, Value.int z9), (6, .int (nI (i26 + 1)))] : List (Nat × Value))) (show (((cl_ss (rf_use w s) i26) - (rf_use w s)) &&& (rf_use w s)) = (cl_ss (rf_use w s) (i26 + 1)) from rfl)) ?_
            exact ih26 (i26 + 1) (by omega) 
          · skip
            refine am_iload (pc := 61) C dX6_fewestForgotten_61 rfl ?_
            refine am_istore (pc := 63) (ls' := [(0, .ref 314), (1, .int (nI s)), (2, .int (rf_use w s)), (3, .int (nI (rf_bc (rf_use w s)))), (4, .int (cl_ss (rf_use w s) i26)), (5, .int (cl_ss (rf_use w s) i26)), (6, .int (nI i26))]) C dX6_fewestForgotten_63 (by decide) rfl ?_
            refine am_iload (pc := 65) C dX6_fewestForgotten_65 rfl ?_
            refine am_iload_n (pc := 67) C dX6_fewestForgotten_67 rfl ?_
            refine am_isub (pc := 68) C dX6_fewestForgotten_68 ?_
            refine am_iload_n (pc := 69) C dX6_fewestForgotten_69 rfl ?_
            refine am_iand (pc := 70) C dX6_fewestForgotten_70 ?_
            refine am_istore (pc := 71) (ls' := [(0, .ref 314), (1, .int (nI s)), (2, .int (rf_use w s)), (3, .int (nI (rf_bc (rf_use w s)))), (4, .int (cl_ss (rf_use w s) i26)), (5, .int (((cl_ss (rf_use w s) i26) - (rf_use w s)) &&& (rf_use w s))), (6, .int (nI i26))]) C dX6_fewestForgotten_71 (by decide) rfl ?_
            refine am_iincN (pc := 73) (ls' := [(0, .ref 314), (1, .int (nI s)), (2, .int (rf_use w s)), (3, .int (nI (rf_bc (rf_use w s)))), (4, .int (cl_ss (rf_use w s) i26)), (5, .int (((cl_ss (rf_use w s) i26) - (rf_use w s)) &&& (rf_use w s))), (6, .int (nI (i26 + 1)))]) C dX6_fewestForgotten_73 rfl (am_up1 _) (by decide) rfl ?_
            refine am_goto (pc := 76) (tgt := 26) C dX6_fewestForgotten_76 (by decide) ?_
            refine am_lsv (ls' := [(0, .ref 314), (1, .int (nI s)), (2, .int (rf_use w s)), (3, .int (nI (rf_bc (rf_use w s)))), (4, .int (cl_bf w (rf_use w s) (i26 + 1))), (5, .int (((cl_ss (rf_use w s) i26) - (rf_use w s)) &&& (rf_use w s))), (6, .int (nI (i26 + 1)))]) (congrArg (fun z9 : Int32 => ([(0, .ref 314), (1, .int (nI s)), (2, .int (rf_use w s)), (3, .int (nI (rf_bc (rf_use w s)))), (4, Value.int z9), (5, .int (((cl_ss (rf_use w s) i26) - (rf_use w s)) &&& (rf_use w s))), (6, .int (nI (i26 + 1)))] : List (Nat × Value))) (show (cl_ss (rf_use w s) i26) = (cl_bf w (rf_use w s) (i26 + 1)) from (by rw [cl_bf, if_pos ⟨by omega, q58⟩]))) ?_
            refine am_lsv (ls' := [(0, .ref 314), (1, .int (nI s)), (2, .int (rf_use w s)), (3, .int (nI (rf_bc (rf_use w s)))), (4, .int (cl_bf w (rf_use w s) (i26 + 1))), (5, .int (cl_ss (rf_use w s) (i26 + 1))), (6, .int (nI (i26 + 1)))]) (congrArg (fun z9 : Int32 => ([(0, .ref 314), (1, .int (nI s)), (2, .int (rf_use w s)), (3, .int (nI (rf_bc (rf_use w s)))), (4, .int (cl_bf w (rf_use w s) (i26 + 1))), (5, Value.int z9), (6, .int (nI (i26 + 1)))] : List (Nat × Value))) (show (((cl_ss (rf_use w s) i26) - (rf_use w s)) &&& (rf_use w s)) = (cl_ss (rf_use w s) (i26 + 1)) from rfl)) ?_
            exact ih26 (i26 + 1) (by omega) 
  refine am_lsv (ls' := [(0, .ref 314), (1, .int (nI s)), (2, .int (rf_use w s)), (3, .int (nI (rf_bc (rf_use w s)))), (4, .int (cl_bf w (rf_use w s) 0)), (5, .int (nI 0)), (6, .int (nI 0))]) (congrArg (fun z9 : Int32 => ([(0, .ref 314), (1, .int (nI s)), (2, .int (rf_use w s)), (3, .int (nI (rf_bc (rf_use w s)))), (4, Value.int z9), (5, .int (nI 0)), (6, .int (nI 0))] : List (Nat × Value))) (show (rf_use w s) = (cl_bf w (rf_use w s) 0) from rfl)) ?_
  refine am_lsv (ls' := [(0, .ref 314), (1, .int (nI s)), (2, .int (rf_use w s)), (3, .int (nI (rf_bc (rf_use w s)))), (4, .int (cl_bf w (rf_use w s) 0)), (5, .int (cl_ss (rf_use w s) 0)), (6, .int (nI 0))]) (congrArg (fun z9 : Int32 => ([(0, .ref 314), (1, .int (nI s)), (2, .int (rf_use w s)), (3, .int (nI (rf_bc (rf_use w s)))), (4, .int (cl_bf w (rf_use w s) 0)), (5, Value.int z9), (6, .int (nI 0))] : List (Nat × Value))) (show (nI 0) = (cl_ss (rf_use w s) 0) from rfl)) ?_
  exact L26 (2 ^ rf_bc (rf_use w s)) 0 (by omega) 

