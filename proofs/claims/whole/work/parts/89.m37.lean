/-! THE CLASS: a soldier, a memory, an order enter the draft -/
section M37
def cl_ab (f : Nat → Int32) (x : Int32) : Nat → Int32
  | 0 => x
  | i + 1 => if am_bt x i = true then cl_ab f x i ||| f i else cl_ab f x i
def cl_ar (f : Nat → Int32) (all : Int32) (M : Nat) : Nat → Nat → Int32
  | 0 => f
  | i + 1 => if am_bt all i = true then upd (cl_ar f all M i) i (cl_ar f all M i i ||| (nI 1 <<< (nI M &&& 31))) else cl_ar f all M i
end M37

set_option maxHeartbeats 400000 in
set_option maxRecDepth 100000 in
theorem c_X10_enter_d {ad : Nat → Nat} {r : am_R} (hR : am_rs r) {h : am_H} (s : Nat) (hs : s < 10)  : am_CM mX10_enter 1 0 0 [.ref 56, .int (nI s)] (am_VV ad) r h (am_po none r (am_row (am_row (am_row (am_row (am_row h 79 (upd (h 79) s (nI 0))) 80 (upd (h 80) s ((h 66) (s * 6)))) 81 (upd (h 81) s (nI 0))) 82 (upd (h 82) s (nI 0))) 83 (upd (h 83) s (nI 0)))) := by
  refine am_CM.of (by decide +kernel) (Nat.le_of_ble_eq_true rfl) (fun X C T => ?_)
  show am_G X (am_VV ad) (0, 0) 0 [(0, .ref 56), (1, .int (nI s))] [] r h
  refine am_aload_n (pc := 0) C dX10_enter_0 rfl ?_
  refine am_getR (pc := 1) (j := 78) C dX10_enter_1 f10_22 bn_56 sh_56 (rf_56_2 hR) ?_
  refine am_getR (pc := 4) (j := 79) C dX10_enter_4 f10_40 bn_78 sh_78 (rf_78_5 hR) ?_
  refine am_iload_n (pc := 7) C dX10_enter_7 rfl ?_
  refine am_iconstN (pc := 8) (k := 0) C dX10_enter_8 ?_
  refine am_callSNv (Y := mX11_put) (pc := 9) (st := []) (As := [.ref 79, .int (nI s), .int (nI 0)]) (h2 := (am_row h 79 (upd (h 79) s (nI 0)))) C dX10_enter_9 k10_44 v_X11_put rfl rfl (by decide) (Nat.zero_le _) (Nat.zero_le _) (Nat.le_of_ble_eq_true rfl) (c_X11_put 79 s (nI 0) 10 bn_79 sh_79 (show s < 10 from by omega) (by decide)) ?_
  refine am_aload_n (pc := 12) C dX10_enter_12 rfl ?_
  refine am_getR (pc := 13) (j := 78) C dX10_enter_13 f10_22 bn_56 sh_56 (rf_56_2 hR) ?_
  refine am_getR (pc := 16) (j := 80) C dX10_enter_16 f10_48 bn_78 sh_78 (rf_78_6 hR) ?_
  refine am_iload_n (pc := 19) C dX10_enter_19 rfl ?_
  refine am_aload_n (pc := 20) C dX10_enter_20 rfl ?_
  refine am_getR (pc := 21) (j := 57) C dX10_enter_21 f10_9 bn_56 sh_56 (rf_56_0 hR) ?_
  refine am_getR (pc := 24) (j := 66) C dX10_enter_24 f10_51 bn_57 sh_57 (rf_57_12 hR) ?_
  refine am_iload_n (pc := 27) C dX10_enter_27 rfl ?_
  refine am_bipush (pc := 28) (v := nI 6) C dX10_enter_28 (by decide) ?_
  refine am_imulN (pc := 30) C dX10_enter_30 ?_
  refine am_callSNi (Y := mX11_pick) (pc := 31) (st := [.int (nI s), .ref 80]) (As := [.ref 66, .int (nI (s * 6))]) (x := ((h 66) (s * 6))) (h2 := (am_row h 79 (upd (h 79) s (nI 0)))) C dX10_enter_31 k10_54 v_X11_pick rfl rfl (by decide) (Nat.zero_le _) (Nat.zero_le _) (Nat.le_of_ble_eq_true rfl) (c_X11_pick 66 (s * 6) 60 bn_66 sh_66 (show s * 6 < 60 from by omega) (by decide)) ?_
  refine am_callSNv (Y := mX11_put) (pc := 34) (st := []) (As := [.ref 80, .int (nI s), .int ((h 66) (s * 6))]) (h2 := (am_row (am_row h 79 (upd (h 79) s (nI 0))) 80 (upd (h 80) s ((h 66) (s * 6))))) C dX10_enter_34 k10_44 v_X11_put rfl rfl (by decide) (Nat.zero_le _) (Nat.zero_le _) (Nat.le_of_ble_eq_true rfl) (c_X11_put 80 s ((h 66) (s * 6)) 10 bn_80 sh_80 (show s < 10 from by omega) (by decide)) ?_
  refine am_aload_n (pc := 37) C dX10_enter_37 rfl ?_
  refine am_getR (pc := 38) (j := 78) C dX10_enter_38 f10_22 bn_56 sh_56 (rf_56_2 hR) ?_
  refine am_getR (pc := 41) (j := 81) C dX10_enter_41 f10_58 bn_78 sh_78 (rf_78_7 hR) ?_
  refine am_iload_n (pc := 44) C dX10_enter_44 rfl ?_
  refine am_iconstN (pc := 45) (k := 0) C dX10_enter_45 ?_
  refine am_callSNv (Y := mX11_put) (pc := 46) (st := []) (As := [.ref 81, .int (nI s), .int (nI 0)]) (h2 := (am_row (am_row (am_row h 79 (upd (h 79) s (nI 0))) 80 (upd (h 80) s ((h 66) (s * 6)))) 81 (upd (h 81) s (nI 0)))) C dX10_enter_46 k10_44 v_X11_put rfl rfl (by decide) (Nat.zero_le _) (Nat.zero_le _) (Nat.le_of_ble_eq_true rfl) (c_X11_put 81 s (nI 0) 10 bn_81 sh_81 (show s < 10 from by omega) (by decide)) ?_
  refine am_aload_n (pc := 49) C dX10_enter_49 rfl ?_
  refine am_getR (pc := 50) (j := 78) C dX10_enter_50 f10_22 bn_56 sh_56 (rf_56_2 hR) ?_
  refine am_getR (pc := 53) (j := 82) C dX10_enter_53 f10_61 bn_78 sh_78 (rf_78_8 hR) ?_
  refine am_iload_n (pc := 56) C dX10_enter_56 rfl ?_
  refine am_iconstN (pc := 57) (k := 0) C dX10_enter_57 ?_
  refine am_callSNv (Y := mX11_put) (pc := 58) (st := []) (As := [.ref 82, .int (nI s), .int (nI 0)]) (h2 := (am_row (am_row (am_row (am_row h 79 (upd (h 79) s (nI 0))) 80 (upd (h 80) s ((h 66) (s * 6)))) 81 (upd (h 81) s (nI 0))) 82 (upd (h 82) s (nI 0)))) C dX10_enter_58 k10_44 v_X11_put rfl rfl (by decide) (Nat.zero_le _) (Nat.zero_le _) (Nat.le_of_ble_eq_true rfl) (c_X11_put 82 s (nI 0) 10 bn_82 sh_82 (show s < 10 from by omega) (by decide)) ?_
  refine am_aload_n (pc := 61) C dX10_enter_61 rfl ?_
  refine am_getR (pc := 62) (j := 78) C dX10_enter_62 f10_22 bn_56 sh_56 (rf_56_2 hR) ?_
  refine am_getR (pc := 65) (j := 83) C dX10_enter_65 f10_64 bn_78 sh_78 (rf_78_9 hR) ?_
  refine am_iload_n (pc := 68) C dX10_enter_68 rfl ?_
  refine am_iconstN (pc := 69) (k := 0) C dX10_enter_69 ?_
  refine am_callSNv (Y := mX11_put) (pc := 70) (st := []) (As := [.ref 83, .int (nI s), .int (nI 0)]) (h2 := (am_row (am_row (am_row (am_row (am_row h 79 (upd (h 79) s (nI 0))) 80 (upd (h 80) s ((h 66) (s * 6)))) 81 (upd (h 81) s (nI 0))) 82 (upd (h 82) s (nI 0))) 83 (upd (h 83) s (nI 0)))) C dX10_enter_70 k10_44 v_X11_put rfl rfl (by decide) (Nat.zero_le _) (Nat.zero_le _) (Nat.le_of_ble_eq_true rfl) (c_X11_put 83 s (nI 0) 10 bn_83 sh_83 (show s < 10 from by omega) (by decide)) ?_
  exact am_vretv T dX10_enter_73 rfl (Nat.le_refl _) (Nat.le_refl _) rfl rfl

set_option maxHeartbeats 400000 in
set_option maxRecDepth 100000 in
theorem c_X3_addMemory_d {ad : Nat → Nat} {r : am_R} (hR : am_rs r) {h : am_H} (v : Int32) (x : Int32) (hm : rf_n ((h 57) 1) 16)  : am_CM mX3_addMemory 1 0 0 [.ref 57, .int v, .int x] (am_VV ad) r h (am_po none r (am_row (am_row (am_row (am_row (am_row (am_row h 61 (upd (cl_ar (h 61) (cl_ab (h 60) x (rf_nat ((h 57) 1))) (rf_nat ((h 57) 1)) (rf_nat ((h 57) 1))) (rf_nat ((h 57) 1)) (nI 0))) 58 (upd (h 58) (rf_nat ((h 57) 1)) v)) 59 (upd (h 59) (rf_nat ((h 57) 1)) x)) 60 (upd (h 60) (rf_nat ((h 57) 1)) (cl_ab (h 60) x (rf_nat ((h 57) 1))))) 62 (upd (h 62) (rf_nat ((h 57) 1)) (nI 0))) 57 (upd (h 57) 1 (nI (rf_nat ((h 57) 1) + 1))))) := by
  refine am_CM.of (by decide +kernel) (Nat.le_of_ble_eq_true rfl) (fun X C T => ?_)
  show am_G X (am_VV ad) (0, 0) 0 [(0, .ref 57), (1, .int v), (2, .int x)] [] r h
  have hm2 : rf_nat (h 57 1) < 16 := hm.2
  refine am_aload_n (pc := 0) C dX3_addMemory_0 rfl ?_
  refine am_getI (pc := 1) C dX3_addMemory_1 f3_52 bn_57 sh_57 ?_
  refine am_top (show ((h 57) 1) = (nI (rf_nat (h 57 1))) from hm.1) ?_
  refine am_bipush (pc := 4) (v := nI 16) C dX3_addMemory_4 (by decide) ?_
  refine am_icmp_ltN (pc := 6) (tgt := 10) C dX3_addMemory_6 (by decide) (by omega) (by omega) (fun q6 => ?_) (fun q6 => ?_)
  · skip
    refine am_iload_n (pc := 10) C dX3_addMemory_10 rfl ?_
    refine am_istore_n (pc := 11) (ls' := [(0, .ref 57), (1, .int v), (2, .int x), (3, .int x)]) C dX3_addMemory_11 (by decide) rfl ?_
    refine am_iconstN (pc := 12) (k := 0) C dX3_addMemory_12 ?_
    refine am_istore (pc := 13) (ls' := [(0, .ref 57), (1, .int v), (2, .int x), (3, .int x), (4, .int (nI 0))]) C dX3_addMemory_13 (by decide) rfl ?_
    have L15 : ∀ (j15 i15 : Nat), i15 + j15 = (rf_nat (h 57 1)) → am_G X (am_VV ad) (0, 0) 15 [(0, .ref 57), (1, .int v), (2, .int x), (3, .int (cl_ab (h 60) x i15)), (4, .int (nI i15))] [] r h := by
      intro j15
      induction j15 with
      | zero =>
        intro i15 hi15 
        obtain rfl : i15 = (rf_nat (h 57 1)) := by omega
        refine am_iload (pc := 15) C dX3_addMemory_15 rfl ?_
        refine am_aload_n (pc := 17) C dX3_addMemory_17 rfl ?_
        refine am_getI (pc := 18) C dX3_addMemory_18 f3_52 bn_57 sh_57 ?_
        refine am_top (show ((h 57) 1) = (nI (rf_nat (h 57 1))) from hm.1) ?_
        refine am_icmp_geN (pc := 21) (tgt := 51) C dX3_addMemory_21 (by decide) (by omega) (by omega) (fun q21 => ?_) (fun q21 => ?_)
        · skip
          refine am_iconstN (pc := 51) (k := 0) C dX3_addMemory_51 ?_
          refine am_istore (pc := 52) (ls' := [(0, .ref 57), (1, .int v), (2, .int x), (3, .int (cl_ab (h 60) x (rf_nat (h 57 1)))), (4, .int (nI 0))]) C dX3_addMemory_52 (by decide) rfl ?_
          have L52 : ∀ (j52 i52 : Nat), i52 + j52 = (rf_nat (h 57 1)) → am_G X (am_VV ad) (0, 0) 54 [(0, .ref 57), (1, .int v), (2, .int x), (3, .int (cl_ab (h 60) x (rf_nat (h 57 1)))), (4, .int (nI i52))] [] r (am_row h 61 (cl_ar (h 61) (cl_ab (h 60) x (rf_nat (h 57 1))) (rf_nat (h 57 1)) i52)) := by
            intro j52
            induction j52 with
            | zero =>
              intro i52 hi52 
              obtain rfl : i52 = (rf_nat (h 57 1)) := by omega
              refine am_iload (pc := 54) C dX3_addMemory_54 rfl ?_
              refine am_aload_n (pc := 56) C dX3_addMemory_56 rfl ?_
              refine am_getI (pc := 57) C dX3_addMemory_57 f3_52 bn_57 sh_57 ?_
              refine am_top (show ((h 57) 1) = (nI (rf_nat (h 57 1))) from hm.1) ?_
              refine am_icmp_geN (pc := 60) (tgt := 103) C dX3_addMemory_60 (by decide) (by omega) (by omega) (fun q58 => ?_) (fun q58 => ?_)
              · skip
                refine am_aload_n (pc := 103) C dX3_addMemory_103 rfl ?_
                refine am_getR (pc := 104) (j := 58) C dX3_addMemory_104 f3_9 bn_57 sh_57 (rf_57_4 hR) ?_
                refine am_aload_n (pc := 107) C dX3_addMemory_107 rfl ?_
                refine am_getI (pc := 108) C dX3_addMemory_108 f3_52 bn_57 sh_57 ?_
                refine am_top (show ((h 57) 1) = (nI (rf_nat (h 57 1))) from hm.1) ?_
                refine am_iload_n (pc := 111) C dX3_addMemory_111 rfl ?_
                refine am_callSNv (Y := mX11_put) (pc := 112) (st := []) (As := [.ref 58, .int (nI (rf_nat (h 57 1))), .int v]) (h2 := (am_row (am_row h 61 (cl_ar (h 61) (cl_ab (h 60) x (rf_nat (h 57 1))) (rf_nat (h 57 1)) (rf_nat (h 57 1)))) 58 (upd (h 58) (rf_nat (h 57 1)) v))) C dX3_addMemory_112 k3_73 v_X11_put rfl rfl (by decide) (Nat.zero_le _) (Nat.zero_le _) (Nat.le_of_ble_eq_true rfl) (c_X11_put 58 (rf_nat (h 57 1)) v 16 bn_58 sh_58 (show rf_nat (h 57 1) < 16 from by omega) (by decide)) ?_
                refine am_aload_n (pc := 115) C dX3_addMemory_115 rfl ?_
                refine am_getR (pc := 116) (j := 59) C dX3_addMemory_116 f3_15 bn_57 sh_57 (rf_57_5 hR) ?_
                refine am_aload_n (pc := 119) C dX3_addMemory_119 rfl ?_
                refine am_getI (pc := 120) C dX3_addMemory_120 f3_52 bn_57 sh_57 ?_
                refine am_top (show ((h 57) 1) = (nI (rf_nat (h 57 1))) from hm.1) ?_
                refine am_iload_n (pc := 123) C dX3_addMemory_123 rfl ?_
                refine am_callSNv (Y := mX11_put) (pc := 124) (st := []) (As := [.ref 59, .int (nI (rf_nat (h 57 1))), .int x]) (h2 := (am_row (am_row (am_row h 61 (cl_ar (h 61) (cl_ab (h 60) x (rf_nat (h 57 1))) (rf_nat (h 57 1)) (rf_nat (h 57 1)))) 58 (upd (h 58) (rf_nat (h 57 1)) v)) 59 (upd (h 59) (rf_nat (h 57 1)) x))) C dX3_addMemory_124 k3_73 v_X11_put rfl rfl (by decide) (Nat.zero_le _) (Nat.zero_le _) (Nat.le_of_ble_eq_true rfl) (c_X11_put 59 (rf_nat (h 57 1)) x 16 bn_59 sh_59 (show rf_nat (h 57 1) < 16 from by omega) (by decide)) ?_
                refine am_aload_n (pc := 127) C dX3_addMemory_127 rfl ?_
                refine am_getR (pc := 128) (j := 60) C dX3_addMemory_128 f3_18 bn_57 sh_57 (rf_57_6 hR) ?_
                refine am_aload_n (pc := 131) C dX3_addMemory_131 rfl ?_
                refine am_getI (pc := 132) C dX3_addMemory_132 f3_52 bn_57 sh_57 ?_
                refine am_top (show ((h 57) 1) = (nI (rf_nat (h 57 1))) from hm.1) ?_
                refine am_iload_n (pc := 135) C dX3_addMemory_135 rfl ?_
                refine am_callSNv (Y := mX11_put) (pc := 136) (st := []) (As := [.ref 60, .int (nI (rf_nat (h 57 1))), .int (cl_ab (h 60) x (rf_nat (h 57 1)))]) (h2 := (am_row (am_row (am_row (am_row h 61 (cl_ar (h 61) (cl_ab (h 60) x (rf_nat (h 57 1))) (rf_nat (h 57 1)) (rf_nat (h 57 1)))) 58 (upd (h 58) (rf_nat (h 57 1)) v)) 59 (upd (h 59) (rf_nat (h 57 1)) x)) 60 (upd (h 60) (rf_nat (h 57 1)) (cl_ab (h 60) x (rf_nat (h 57 1)))))) C dX3_addMemory_136 k3_73 v_X11_put rfl rfl (by decide) (Nat.zero_le _) (Nat.zero_le _) (Nat.le_of_ble_eq_true rfl) (c_X11_put 60 (rf_nat (h 57 1)) (cl_ab (h 60) x (rf_nat (h 57 1))) 16 bn_60 sh_60 (show rf_nat (h 57 1) < 16 from by omega) (by decide)) ?_
                refine am_aload_n (pc := 139) C dX3_addMemory_139 rfl ?_
                refine am_getR (pc := 140) (j := 61) C dX3_addMemory_140 f3_21 bn_57 sh_57 (rf_57_7 hR) ?_
                refine am_aload_n (pc := 143) C dX3_addMemory_143 rfl ?_
                refine am_getI (pc := 144) C dX3_addMemory_144 f3_52 bn_57 sh_57 ?_
                refine am_top (show ((h 57) 1) = (nI (rf_nat (h 57 1))) from hm.1) ?_
                refine am_iconstN (pc := 147) (k := 0) C dX3_addMemory_147 ?_
                refine am_callSNv (Y := mX11_put) (pc := 148) (st := []) (As := [.ref 61, .int (nI (rf_nat (h 57 1))), .int (nI 0)]) (h2 := (am_row (am_row (am_row (am_row (am_row h 61 (cl_ar (h 61) (cl_ab (h 60) x (rf_nat (h 57 1))) (rf_nat (h 57 1)) (rf_nat (h 57 1)))) 58 (upd (h 58) (rf_nat (h 57 1)) v)) 59 (upd (h 59) (rf_nat (h 57 1)) x)) 60 (upd (h 60) (rf_nat (h 57 1)) (cl_ab (h 60) x (rf_nat (h 57 1))))) 61 (upd (cl_ar (h 61) (cl_ab (h 60) x (rf_nat (h 57 1))) (rf_nat (h 57 1)) (rf_nat (h 57 1))) (rf_nat (h 57 1)) (nI 0)))) C dX3_addMemory_148 k3_73 v_X11_put rfl rfl (by decide) (Nat.zero_le _) (Nat.zero_le _) (Nat.le_of_ble_eq_true rfl) (c_X11_put 61 (rf_nat (h 57 1)) (nI 0) 16 bn_61 sh_61 (show rf_nat (h 57 1) < 16 from by omega) (by decide)) ?_
                refine am_hp (show (am_row (am_row (am_row (am_row (am_row h 61 (cl_ar (h 61) (cl_ab (h 60) x (rf_nat (h 57 1))) (rf_nat (h 57 1)) (rf_nat (h 57 1)))) 58 (upd (h 58) (rf_nat (h 57 1)) v)) 59 (upd (h 59) (rf_nat (h 57 1)) x)) 60 (upd (h 60) (rf_nat (h 57 1)) (cl_ab (h 60) x (rf_nat (h 57 1))))) 61 (upd (cl_ar (h 61) (cl_ab (h 60) x (rf_nat (h 57 1))) (rf_nat (h 57 1)) (rf_nat (h 57 1))) (rf_nat (h 57 1)) (nI 0))) = (am_row (am_row (am_row (am_row h 61 (upd (cl_ar (h 61) (cl_ab (h 60) x (rf_nat (h 57 1))) (rf_nat (h 57 1)) (rf_nat (h 57 1))) (rf_nat (h 57 1)) (nI 0))) 58 (upd (h 58) (rf_nat (h 57 1)) v)) 59 (upd (h 59) (rf_nat (h 57 1)) x)) 60 (upd (h 60) (rf_nat (h 57 1)) (cl_ab (h 60) x (rf_nat (h 57 1))))) from am_row_s3 (by decide) (by decide) (by decide)) ?_
                refine am_aload_n (pc := 151) C dX3_addMemory_151 rfl ?_
                refine am_getR (pc := 152) (j := 62) C dX3_addMemory_152 f3_24 bn_57 sh_57 (rf_57_8 hR) ?_
                refine am_aload_n (pc := 155) C dX3_addMemory_155 rfl ?_
                refine am_getI (pc := 156) C dX3_addMemory_156 f3_52 bn_57 sh_57 ?_
                refine am_top (show ((h 57) 1) = (nI (rf_nat (h 57 1))) from hm.1) ?_
                refine am_iconstN (pc := 159) (k := 0) C dX3_addMemory_159 ?_
                refine am_callSNv (Y := mX11_put) (pc := 160) (st := []) (As := [.ref 62, .int (nI (rf_nat (h 57 1))), .int (nI 0)]) (h2 := (am_row (am_row (am_row (am_row (am_row h 61 (upd (cl_ar (h 61) (cl_ab (h 60) x (rf_nat (h 57 1))) (rf_nat (h 57 1)) (rf_nat (h 57 1))) (rf_nat (h 57 1)) (nI 0))) 58 (upd (h 58) (rf_nat (h 57 1)) v)) 59 (upd (h 59) (rf_nat (h 57 1)) x)) 60 (upd (h 60) (rf_nat (h 57 1)) (cl_ab (h 60) x (rf_nat (h 57 1))))) 62 (upd (h 62) (rf_nat (h 57 1)) (nI 0)))) C dX3_addMemory_160 k3_73 v_X11_put rfl rfl (by decide) (Nat.zero_le _) (Nat.zero_le _) (Nat.le_of_ble_eq_true rfl) (c_X11_put 62 (rf_nat (h 57 1)) (nI 0) 16 bn_62 sh_62 (show rf_nat (h 57 1) < 16 from by omega) (by decide)) ?_
                refine am_aload_n (pc := 163) C dX3_addMemory_163 rfl ?_
                refine am_dup (pc := 164) C dX3_addMemory_164 rfl ?_
                refine am_getI (pc := 165) C dX3_addMemory_165 f3_52 bn_57 sh_57 ?_
                refine am_top (show ((h 57) 1) = (nI (rf_nat (h 57 1))) from hm.1) ?_
                refine am_iconstN (pc := 168) (k := 1) C dX3_addMemory_168 ?_
                refine am_iaddN (pc := 169) C dX3_addMemory_169 ?_
                refine am_putI (pc := 170) C dX3_addMemory_170 f3_52 bn_57 sh_57 rfl rfl ?_
                refine am_hp (show am_up (am_row (am_row (am_row (am_row (am_row h 61 (upd (cl_ar (h 61) (cl_ab (h 60) x (rf_nat (h 57 1))) (rf_nat (h 57 1)) (rf_nat (h 57 1))) (rf_nat (h 57 1)) (nI 0))) 58 (upd (h 58) (rf_nat (h 57 1)) v)) 59 (upd (h 59) (rf_nat (h 57 1)) x)) 60 (upd (h 60) (rf_nat (h 57 1)) (cl_ab (h 60) x (rf_nat (h 57 1))))) 62 (upd (h 62) (rf_nat (h 57 1)) (nI 0))) 57 1 (nI ((rf_nat (h 57 1)) + 1)) = am_row (am_row (am_row (am_row (am_row (am_row h 61 (upd (cl_ar (h 61) (cl_ab (h 60) x (rf_nat (h 57 1))) (rf_nat (h 57 1)) (rf_nat (h 57 1))) (rf_nat (h 57 1)) (nI 0))) 58 (upd (h 58) (rf_nat (h 57 1)) v)) 59 (upd (h 59) (rf_nat (h 57 1)) x)) 60 (upd (h 60) (rf_nat (h 57 1)) (cl_ab (h 60) x (rf_nat (h 57 1))))) 62 (upd (h 62) (rf_nat (h 57 1)) (nI 0))) 57 (upd (h 57) 1 (nI ((rf_nat (h 57 1)) + 1))) from am_up_rw _ _ _ _) ?_
                exact am_vretv T dX3_addMemory_173 rfl (Nat.le_refl _) (Nat.le_refl _) rfl rfl
              · skip
                exact absurd q58 (by omega)
            | succ j52 ih52 =>
              intro i52 hi52 
              have hl52 : i52 < (rf_nat (h 57 1)) := by omega
              refine am_iload (pc := 54) C dX3_addMemory_54 rfl ?_
              refine am_aload_n (pc := 56) C dX3_addMemory_56 rfl ?_
              refine am_getI (pc := 57) C dX3_addMemory_57 f3_52 bn_57 sh_57 ?_
              refine am_top (show ((h 57) 1) = (nI (rf_nat (h 57 1))) from hm.1) ?_
              refine am_icmp_geN (pc := 60) (tgt := 103) C dX3_addMemory_60 (by decide) (by omega) (by omega) (fun q58 => ?_) (fun q58 => ?_)
              · skip
                exact absurd q58 (by omega)
              · skip
                refine am_iload_n (pc := 63) C dX3_addMemory_63 rfl ?_
                refine am_iload (pc := 64) C dX3_addMemory_64 rfl ?_
                refine am_callSNi (Y := mX11_has) (pc := 66) (st := []) (As := [.int (cl_ab (h 60) x (rf_nat (h 57 1))), .int (nI i52)]) (x := (am_b (am_bt (cl_ab (h 60) x (rf_nat (h 57 1))) i52))) (h2 := (am_row h 61 (cl_ar (h 61) (cl_ab (h 60) x (rf_nat (h 57 1))) (rf_nat (h 57 1)) i52))) C dX3_addMemory_66 k3_65 v_X11_has rfl rfl (by decide) (Nat.zero_le _) (Nat.zero_le _) (Nat.le_of_ble_eq_true rfl) (c_X11_has (cl_ab (h 60) x (rf_nat (h 57 1))) i52 (show i52 < 32 from by omega)) ?_
                refine am_if_eqB (pc := 69) (tgt := 97) C dX3_addMemory_69 (by decide) (fun q67 => ?_) (fun q67 => ?_)
                · skip
                  refine am_iincN (pc := 97) (ls' := [(0, .ref 57), (1, .int v), (2, .int x), (3, .int (cl_ab (h 60) x (rf_nat (h 57 1)))), (4, .int (nI (i52 + 1)))]) C dX3_addMemory_97 rfl (am_up1 _) (by decide) rfl ?_
                  refine am_goto (pc := 100) (tgt := 54) C dX3_addMemory_100 (by decide) ?_
                  refine am_hp (show (am_row h 61 (cl_ar (h 61) (cl_ab (h 60) x (rf_nat (h 57 1))) (rf_nat (h 57 1)) i52)) = (am_row h 61 (cl_ar (h 61) (cl_ab (h 60) x (rf_nat (h 57 1))) (rf_nat (h 57 1)) (i52 + 1))) from (congrArg (am_row _ 61) (by rw [cl_ar, if_neg (by rw [q67]; exact Bool.false_ne_true)]))) ?_
                  exact ih52 (i52 + 1) (by omega) 
                · skip
                  refine am_aload_n (pc := 72) C dX3_addMemory_72 rfl ?_
                  refine am_getR (pc := 73) (j := 61) C dX3_addMemory_73 f3_21 bn_57 sh_57 (rf_57_7 hR) ?_
                  refine am_iload (pc := 76) C dX3_addMemory_76 rfl ?_
                  refine am_aload_n (pc := 78) C dX3_addMemory_78 rfl ?_
                  refine am_getR (pc := 79) (j := 61) C dX3_addMemory_79 f3_21 bn_57 sh_57 (rf_57_7 hR) ?_
                  refine am_iload (pc := 82) C dX3_addMemory_82 rfl ?_
                  refine am_callSNi (Y := mX11_pick) (pc := 84) (st := [.int (nI i52), .ref 61]) (As := [.ref 61, .int (nI i52)]) (x := ((cl_ar (h 61) (cl_ab (h 60) x (rf_nat (h 57 1))) (rf_nat (h 57 1)) i52) i52)) (h2 := (am_row h 61 (cl_ar (h 61) (cl_ab (h 60) x (rf_nat (h 57 1))) (rf_nat (h 57 1)) i52))) C dX3_addMemory_84 k3_69 v_X11_pick rfl rfl (by decide) (Nat.zero_le _) (Nat.zero_le _) (Nat.le_of_ble_eq_true rfl) (c_X11_pick 61 i52 16 bn_61 sh_61 (show i52 < 16 from by omega) (by decide)) ?_
                  refine am_iconstN (pc := 87) (k := 1) C dX3_addMemory_87 ?_
                  refine am_aload_n (pc := 88) C dX3_addMemory_88 rfl ?_
                  refine am_getI (pc := 89) C dX3_addMemory_89 f3_52 bn_57 sh_57 ?_
                  refine am_top (show ((h 57) 1) = (nI (rf_nat (h 57 1))) from hm.1) ?_
                  refine am_ishl (pc := 92) C dX3_addMemory_92 ?_
                  refine am_ior (pc := 93) C dX3_addMemory_93 ?_
                  refine am_callSNv (Y := mX11_put) (pc := 94) (st := []) (As := [.ref 61, .int (nI i52), .int (((cl_ar (h 61) (cl_ab (h 60) x (rf_nat (h 57 1))) (rf_nat (h 57 1)) i52) i52) ||| ((nI 1) <<< ((nI (rf_nat (h 57 1))) &&& 31)))]) (h2 := (am_row (am_row h 61 (cl_ar (h 61) (cl_ab (h 60) x (rf_nat (h 57 1))) (rf_nat (h 57 1)) i52)) 61 (upd (cl_ar (h 61) (cl_ab (h 60) x (rf_nat (h 57 1))) (rf_nat (h 57 1)) i52) i52 (((cl_ar (h 61) (cl_ab (h 60) x (rf_nat (h 57 1))) (rf_nat (h 57 1)) i52) i52) ||| ((nI 1) <<< ((nI (rf_nat (h 57 1))) &&& 31)))))) C dX3_addMemory_94 k3_73 v_X11_put rfl rfl (by decide) (Nat.zero_le _) (Nat.zero_le _) (Nat.le_of_ble_eq_true rfl) (c_X11_put 61 i52 (((cl_ar (h 61) (cl_ab (h 60) x (rf_nat (h 57 1))) (rf_nat (h 57 1)) i52) i52) ||| ((nI 1) <<< ((nI (rf_nat (h 57 1))) &&& 31))) 16 bn_61 sh_61 (show i52 < 16 from by omega) (by decide)) ?_
                  refine am_hp (show (am_row (am_row h 61 (cl_ar (h 61) (cl_ab (h 60) x (rf_nat (h 57 1))) (rf_nat (h 57 1)) i52)) 61 (upd (cl_ar (h 61) (cl_ab (h 60) x (rf_nat (h 57 1))) (rf_nat (h 57 1)) i52) i52 (((cl_ar (h 61) (cl_ab (h 60) x (rf_nat (h 57 1))) (rf_nat (h 57 1)) i52) i52) ||| ((nI 1) <<< ((nI (rf_nat (h 57 1))) &&& 31))))) = (am_row h 61 (upd (cl_ar (h 61) (cl_ab (h 60) x (rf_nat (h 57 1))) (rf_nat (h 57 1)) i52) i52 (((cl_ar (h 61) (cl_ab (h 60) x (rf_nat (h 57 1))) (rf_nat (h 57 1)) i52) i52) ||| ((nI 1) <<< ((nI (rf_nat (h 57 1))) &&& 31))))) from am_row_s0) ?_
                  refine am_iincN (pc := 97) (ls' := [(0, .ref 57), (1, .int v), (2, .int x), (3, .int (cl_ab (h 60) x (rf_nat (h 57 1)))), (4, .int (nI (i52 + 1)))]) C dX3_addMemory_97 rfl (am_up1 _) (by decide) rfl ?_
                  refine am_goto (pc := 100) (tgt := 54) C dX3_addMemory_100 (by decide) ?_
                  refine am_hp (show (am_row h 61 (upd (cl_ar (h 61) (cl_ab (h 60) x (rf_nat (h 57 1))) (rf_nat (h 57 1)) i52) i52 (((cl_ar (h 61) (cl_ab (h 60) x (rf_nat (h 57 1))) (rf_nat (h 57 1)) i52) i52) ||| ((nI 1) <<< ((nI (rf_nat (h 57 1))) &&& 31))))) = (am_row h 61 (cl_ar (h 61) (cl_ab (h 60) x (rf_nat (h 57 1))) (rf_nat (h 57 1)) (i52 + 1))) from (congrArg (am_row _ 61) (by rw [cl_ar, if_pos q67]))) ?_
                  exact ih52 (i52 + 1) (by omega) 
          refine am_hp (show h = (am_row h 61 (cl_ar (h 61) (cl_ab (h 60) x (rf_nat (h 57 1))) (rf_nat (h 57 1)) 0)) from (am_row_id _ 61).symm) ?_
          exact L52 (rf_nat (h 57 1)) 0 (by omega) 
        · skip
          exact absurd q21 (by omega)
      | succ j15 ih15 =>
        intro i15 hi15 
        have hl15 : i15 < (rf_nat (h 57 1)) := by omega
        refine am_iload (pc := 15) C dX3_addMemory_15 rfl ?_
        refine am_aload_n (pc := 17) C dX3_addMemory_17 rfl ?_
        refine am_getI (pc := 18) C dX3_addMemory_18 f3_52 bn_57 sh_57 ?_
        refine am_top (show ((h 57) 1) = (nI (rf_nat (h 57 1))) from hm.1) ?_
        refine am_icmp_geN (pc := 21) (tgt := 51) C dX3_addMemory_21 (by decide) (by omega) (by omega) (fun q21 => ?_) (fun q21 => ?_)
        · skip
          exact absurd q21 (by omega)
        · skip
          refine am_iload_n (pc := 24) C dX3_addMemory_24 rfl ?_
          refine am_iload (pc := 25) C dX3_addMemory_25 rfl ?_
          refine am_callSNi (Y := mX11_has) (pc := 27) (st := []) (As := [.int x, .int (nI i15)]) (x := (am_b (am_bt x i15))) (h2 := h) C dX3_addMemory_27 k3_65 v_X11_has rfl rfl (by decide) (Nat.zero_le _) (Nat.zero_le _) (Nat.le_of_ble_eq_true rfl) (c_X11_has x i15 (show i15 < 32 from by omega)) ?_
          refine am_if_eqB (pc := 30) (tgt := 45) C dX3_addMemory_30 (by decide) (fun q30 => ?_) (fun q30 => ?_)
          · skip
            refine am_iincN (pc := 45) (ls' := [(0, .ref 57), (1, .int v), (2, .int x), (3, .int (cl_ab (h 60) x i15)), (4, .int (nI (i15 + 1)))]) C dX3_addMemory_45 rfl (am_up1 _) (by decide) rfl ?_
            refine am_goto (pc := 48) (tgt := 15) C dX3_addMemory_48 (by decide) ?_
            refine am_lsv (ls' := [(0, .ref 57), (1, .int v), (2, .int x), (3, .int (cl_ab (h 60) x (i15 + 1))), (4, .int (nI (i15 + 1)))]) (by rw [show (cl_ab (h 60) x i15) = (cl_ab (h 60) x (i15 + 1)) from (by rw [cl_ab, if_neg (by rw [q30]; exact Bool.false_ne_true)])]) ?_
            exact ih15 (i15 + 1) (by omega) 
          · skip
            refine am_iload_n (pc := 33) C dX3_addMemory_33 rfl ?_
            refine am_aload_n (pc := 34) C dX3_addMemory_34 rfl ?_
            refine am_getR (pc := 35) (j := 60) C dX3_addMemory_35 f3_18 bn_57 sh_57 (rf_57_6 hR) ?_
            refine am_iload (pc := 38) C dX3_addMemory_38 rfl ?_
            refine am_callSNi (Y := mX11_pick) (pc := 40) (st := [.int (cl_ab (h 60) x i15)]) (As := [.ref 60, .int (nI i15)]) (x := ((h 60) i15)) (h2 := h) C dX3_addMemory_40 k3_69 v_X11_pick rfl rfl (by decide) (Nat.zero_le _) (Nat.zero_le _) (Nat.le_of_ble_eq_true rfl) (c_X11_pick 60 i15 16 bn_60 sh_60 (show i15 < 16 from by omega) (by decide)) ?_
            refine am_ior (pc := 43) C dX3_addMemory_43 ?_
            refine am_istore_n (pc := 44) (ls' := [(0, .ref 57), (1, .int v), (2, .int x), (3, .int ((cl_ab (h 60) x i15) ||| ((h 60) i15))), (4, .int (nI i15))]) C dX3_addMemory_44 (by decide) rfl ?_
            refine am_iincN (pc := 45) (ls' := [(0, .ref 57), (1, .int v), (2, .int x), (3, .int ((cl_ab (h 60) x i15) ||| ((h 60) i15))), (4, .int (nI (i15 + 1)))]) C dX3_addMemory_45 rfl (am_up1 _) (by decide) rfl ?_
            refine am_goto (pc := 48) (tgt := 15) C dX3_addMemory_48 (by decide) ?_
            refine am_lsv (ls' := [(0, .ref 57), (1, .int v), (2, .int x), (3, .int (cl_ab (h 60) x (i15 + 1))), (4, .int (nI (i15 + 1)))]) (by rw [show ((cl_ab (h 60) x i15) ||| ((h 60) i15)) = (cl_ab (h 60) x (i15 + 1)) from (by rw [cl_ab, if_pos q30])]) ?_
            exact ih15 (i15 + 1) (by omega) 
    refine am_lsv (ls' := [(0, .ref 57), (1, .int v), (2, .int x), (3, .int (cl_ab (h 60) x 0)), (4, .int (nI 0))]) (congrArg (fun z9 : Int32 => ([(0, .ref 57), (1, .int v), (2, .int x), (3, Value.int z9), (4, .int (nI 0))] : List (Nat × Value))) (show x = (cl_ab (h 60) x 0) from rfl)) ?_
    exact L15 (rf_nat (h 57 1)) 0 (by omega) 
  · skip
    exact absurd q6 (by omega)

set_option maxHeartbeats 400000 in
set_option maxRecDepth 100000 in
theorem c_X3_addOrder_d {ad : Nat → Nat} {r : am_R} (hR : am_rs r) {h : am_H} (a : Int32) (x : Int32) (hm : rf_n ((h 57) 3) 10)  : am_CM mX3_addOrder 1 0 0 [.ref 57, .int a, .int x] (am_VV ad) r h (am_po none r (am_row (am_row (am_row h 67 (upd (h 67) (rf_nat ((h 57) 3)) a)) 68 (upd (h 68) (rf_nat ((h 57) 3)) x)) 57 (upd (h 57) 3 (nI (rf_nat ((h 57) 3) + 1))))) := by
  refine am_CM.of (by decide +kernel) (Nat.le_of_ble_eq_true rfl) (fun X C T => ?_)
  show am_G X (am_VV ad) (0, 0) 0 [(0, .ref 57), (1, .int a), (2, .int x)] [] r h
  have hm2 : rf_nat (h 57 3) < 10 := hm.2
  refine am_aload_n (pc := 0) C dX3_addOrder_0 rfl ?_
  refine am_getI (pc := 1) C dX3_addOrder_1 f3_58 bn_57 sh_57 ?_
  refine am_top (show ((h 57) 3) = (nI (rf_nat (h 57 3))) from hm.1) ?_
  refine am_bipush (pc := 4) (v := nI 10) C dX3_addOrder_4 (by decide) ?_
  refine am_icmp_geN (pc := 6) (tgt := 43) C dX3_addOrder_6 (by decide) (by omega) (by omega) (fun q6 => ?_) (fun q6 => ?_)
  · skip
    exact absurd q6 (by omega)
  · skip
    refine am_aload_n (pc := 9) C dX3_addOrder_9 rfl ?_
    refine am_getR (pc := 10) (j := 67) C dX3_addOrder_10 f3_39 bn_57 sh_57 (rf_57_13 hR) ?_
    refine am_aload_n (pc := 13) C dX3_addOrder_13 rfl ?_
    refine am_getI (pc := 14) C dX3_addOrder_14 f3_58 bn_57 sh_57 ?_
    refine am_top (show ((h 57) 3) = (nI (rf_nat (h 57 3))) from hm.1) ?_
    refine am_iload_n (pc := 17) C dX3_addOrder_17 rfl ?_
    refine am_callSNv (Y := mX11_put) (pc := 18) (st := []) (As := [.ref 67, .int (nI (rf_nat (h 57 3))), .int a]) (h2 := (am_row h 67 (upd (h 67) (rf_nat (h 57 3)) a))) C dX3_addOrder_18 k3_73 v_X11_put rfl rfl (by decide) (Nat.zero_le _) (Nat.zero_le _) (Nat.le_of_ble_eq_true rfl) (c_X11_put 67 (rf_nat (h 57 3)) a 10 bn_67 sh_67 (show rf_nat (h 57 3) < 10 from by omega) (by decide)) ?_
    refine am_aload_n (pc := 21) C dX3_addOrder_21 rfl ?_
    refine am_getR (pc := 22) (j := 68) C dX3_addOrder_22 f3_42 bn_57 sh_57 (rf_57_14 hR) ?_
    refine am_aload_n (pc := 25) C dX3_addOrder_25 rfl ?_
    refine am_getI (pc := 26) C dX3_addOrder_26 f3_58 bn_57 sh_57 ?_
    refine am_top (show ((h 57) 3) = (nI (rf_nat (h 57 3))) from hm.1) ?_
    refine am_iload_n (pc := 29) C dX3_addOrder_29 rfl ?_
    refine am_callSNv (Y := mX11_put) (pc := 30) (st := []) (As := [.ref 68, .int (nI (rf_nat (h 57 3))), .int x]) (h2 := (am_row (am_row h 67 (upd (h 67) (rf_nat (h 57 3)) a)) 68 (upd (h 68) (rf_nat (h 57 3)) x))) C dX3_addOrder_30 k3_73 v_X11_put rfl rfl (by decide) (Nat.zero_le _) (Nat.zero_le _) (Nat.le_of_ble_eq_true rfl) (c_X11_put 68 (rf_nat (h 57 3)) x 10 bn_68 sh_68 (show rf_nat (h 57 3) < 10 from by omega) (by decide)) ?_
    refine am_aload_n (pc := 33) C dX3_addOrder_33 rfl ?_
    refine am_dup (pc := 34) C dX3_addOrder_34 rfl ?_
    refine am_getI (pc := 35) C dX3_addOrder_35 f3_58 bn_57 sh_57 ?_
    refine am_top (show ((h 57) 3) = (nI (rf_nat (h 57 3))) from hm.1) ?_
    refine am_iconstN (pc := 38) (k := 1) C dX3_addOrder_38 ?_
    refine am_iaddN (pc := 39) C dX3_addOrder_39 ?_
    refine am_putI (pc := 40) C dX3_addOrder_40 f3_58 bn_57 sh_57 rfl rfl ?_
    refine am_hp (show am_up (am_row (am_row h 67 (upd (h 67) (rf_nat (h 57 3)) a)) 68 (upd (h 68) (rf_nat (h 57 3)) x)) 57 3 (nI ((rf_nat (h 57 3)) + 1)) = am_row (am_row (am_row h 67 (upd (h 67) (rf_nat (h 57 3)) a)) 68 (upd (h 68) (rf_nat (h 57 3)) x)) 57 (upd (h 57) 3 (nI ((rf_nat (h 57 3)) + 1))) from am_up_rw _ _ _ _) ?_
    exact am_vretv T dX3_addOrder_43 rfl (Nat.le_refl _) (Nat.le_refl _) rfl rfl

