/-! THE CLASS: what the law says of a soldier -/
section M29
theorem cl_A0 {h : am_H} {w : rf_W} (hA : cl_La h 17 w) (hL : rf_Lw w) (q : h 17 0 = -1) : rf_nat (w 4) = 0 := by
  rcases Nat.eq_zero_or_pos (rf_nat (w 4)) with e | e
  · exact e
  · have h1 := (hA.2 e).1
    obtain ⟨h2, h3⟩ := (hL e).1
    rw [q, h2] at h1
    have h4 := congrArg Int32.toInt h1
    rw [nI_toInt (by omega), show (-1 : Int32).toInt = -1 from by decide] at h4
    omega
end M29

set_option maxHeartbeats 400000 in
set_option maxRecDepth 100000 in
theorem c_X10_ruled {ad : Nat → Nat} {r : am_R} (hR : am_rs r) {h : am_H} (s : Nat) (kd : Nat) (w : rf_W) (hV : rf_I w) (hLo : cl_Lo (h) 4 w) (hSc : cl_Sc (h) 25 w) (hs : s < rf_S w) (hkd : kd < 3) (hLw : rf_Lw w) (hLk : rf_Lk w) (hA : cl_La (h) 17 w)  : am_CM mX10_ruled 4 0 0 [.ref 3, .int (nI s), .int (nI kd)] (am_VV ad) r h (am_pr (some (.int (nI (cl_says w kd s)))) r (fun c9 => cl_fr (h) c9 23 2)) := by
  refine am_CM.of (by decide +kernel) (Nat.le_of_ble_eq_true rfl) (fun X C T => ?_)
  show am_G X (am_VV ad) (0, 0) 0 [(0, .ref 3), (1, .int (nI s)), (2, .int (nI kd))] [] r h
  have hM9 : rf_M w < 17 := hV.1.1.2
  have hS9 : rf_S w < 11 := hV.1.2.1.2
  have hO9 : rf_O w < 11 := hV.1.2.2.2
  have hIs := hV.2.1 s hs
  have hcf := rf_cnt_le (cl_foe w s)
  have hcg := rf_cnt_le (cl_frd w s)
  refine am_aload_n (pc := 0) C dX10_ruled_0 rfl ?_
  refine am_getR (pc := 1) (j := 17) C dX10_ruled_1 f10_15 bn_3 sh_3 (rf_3_1 hR) ?_
  refine am_getI (pc := 4) C dX10_ruled_4 f10_183 bn_17 sh_17 ?_
  refine am_iconst (pc := 7) (v := -1) C dX10_ruled_7 rfl ?_
  refine am_icmp_ne (pc := 8) (tgt := 20) C dX10_ruled_8 (by decide) (fun q8 => ?_) (fun q8 => ?_)
  · skip
    have h4 : 0 < rf_nat (w 4) := Nat.pos_of_ne_zero (fun z => q8 (hA.1 z))
    refine am_iconstN (pc := 20) (k := 0) C dX10_ruled_20 ?_
    refine am_istore_n (pc := 21) (ls' := [(0, .ref 3), (1, .int (nI s)), (2, .int (nI kd)), (3, .int (nI 0))]) C dX10_ruled_21 (by decide) rfl ?_
    refine am_iconstN (pc := 22) (k := 0) C dX10_ruled_22 ?_
    refine am_istore (pc := 23) (ls' := [(0, .ref 3), (1, .int (nI s)), (2, .int (nI kd)), (3, .int (nI 0)), (4, .int (nI 0))]) C dX10_ruled_23 (by decide) rfl ?_
    refine am_iconstN (pc := 25) (k := 0) C dX10_ruled_25 ?_
    refine am_istore (pc := 26) (ls' := [(0, .ref 3), (1, .int (nI s)), (2, .int (nI kd)), (3, .int (nI 0)), (4, .int (nI 0)), (5, .int (nI 0))]) C dX10_ruled_26 (by decide) rfl ?_
    have L28 : ∀ (j28 i28 : Nat), i28 + j28 = rf_S w → am_G X (am_VV ad) (0, 0) 28 [(0, .ref 3), (1, .int (nI s)), (2, .int (nI kd)), (3, .int (nI (rf_cnt (cl_foe w s) i28))), (4, .int (nI (rf_cnt (cl_frd w s) i28))), (5, .int (nI i28))] [] r h := by
      intro j28
      induction j28 with
      | zero =>
        intro i28 hi28 
        obtain rfl : i28 = rf_S w := by omega
        have hcf2 := hcf (rf_S w)
        have hcg2 := hcg (rf_S w)
        refine am_iload (pc := 28) C dX10_ruled_28 rfl ?_
        refine am_aload_n (pc := 30) C dX10_ruled_30 rfl ?_
        refine am_getR (pc := 31) (j := 4) C dX10_ruled_31 f10_9 bn_3 sh_3 (rf_3_0 hR) ?_
        refine am_getI (pc := 34) C dX10_ruled_34 f10_138 bn_4 sh_4 ?_
        refine am_top (show ((h 4) 2) = (nI (rf_S w)) from (hLo.1.2.2.1.trans hV.1.2.1.1)) ?_
        refine am_icmp_geN (pc := 37) (tgt := 81) C dX10_ruled_37 (by decide) (by omega) (by omega) (fun q37 => ?_) (fun q37 => ?_)
        · skip
          refine am_aload_n (pc := 81) C dX10_ruled_81 rfl ?_
          refine am_getR (pc := 82) (j := 17) C dX10_ruled_82 f10_15 bn_3 sh_3 (rf_3_1 hR) ?_
          refine am_getR (pc := 85) (j := 23) C dX10_ruled_85 f10_189 bn_17 sh_17 (rf_17_7 hR) ?_
          refine am_iconstN (pc := 88) (k := 0) C dX10_ruled_88 ?_
          refine am_iload_n (pc := 89) C dX10_ruled_89 rfl ?_
          refine am_iastore (pc := 90) C dX10_ruled_90 bn_23 sh_23 (vp_in_nI (by omega) (by decide)) ?_
          refine am_hp (show am_up h 23 (nI 0).toNatClampNeg (nI s) = am_row h 23 (upd (h 23) 0 (nI s)) from by rw [nI_clamp (by omega)]; exact am_up_rw _ _ _ _) ?_
          refine am_aload_n (pc := 91) C dX10_ruled_91 rfl ?_
          refine am_getR (pc := 92) (j := 17) C dX10_ruled_92 f10_15 bn_3 sh_3 (rf_3_1 hR) ?_
          refine am_getR (pc := 95) (j := 23) C dX10_ruled_95 f10_189 bn_17 sh_17 (rf_17_7 hR) ?_
          refine am_iconstN (pc := 98) (k := 1) C dX10_ruled_98 ?_
          refine am_aload_n (pc := 99) C dX10_ruled_99 rfl ?_
          refine am_getR (pc := 100) (j := 4) C dX10_ruled_100 f10_9 bn_3 sh_3 (rf_3_0 hR) ?_
          refine am_getR (pc := 103) (j := 10) C dX10_ruled_103 f10_88 bn_4 sh_4 (rf_4_9 hR) ?_
          refine am_iload_n (pc := 106) C dX10_ruled_106 rfl ?_
          refine am_callSNi (Y := mX11_pick) (pc := 107) (st := [.int (nI 1), .ref 23]) (As := [.ref 10, .int (nI s)]) (x := ((h 10) s)) (h2 := (am_row h 23 (upd (h 23) 0 (nI s)))) C dX10_ruled_107 k10_54 v_X11_pick rfl rfl (by decide) (Nat.zero_le _) (Nat.zero_le _) (Nat.le_of_ble_eq_true rfl) (c_X11_pick 10 s 10 bn_10 sh_10 (show s < 10 from by omega) (by decide)) ?_
          refine am_top (show ((h 10) s) = (rf_of w s 0) from (hLo.2.2.1 s (by omega)).1) ?_
          refine am_iastore (pc := 110) C dX10_ruled_110 bn_23 sh_23 (vp_in_nI (by omega) (by decide)) ?_
          refine am_hp (show am_up (am_row h 23 (upd (h 23) 0 (nI s))) 23 (nI 1).toNatClampNeg (rf_of w s 0) = am_row (am_row h 23 (upd (h 23) 0 (nI s))) 23 (upd (upd (h 23) 0 (nI s)) 1 (rf_of w s 0)) from by rw [nI_clamp (by omega)]; exact am_up_rw _ _ _ _) ?_
          refine am_hp (show am_row (am_row h 23 (upd (h 23) 0 (nI s))) 23 (upd (upd (h 23) 0 (nI s)) 1 (rf_of w s 0)) = (am_row h 23 (upd (upd (h 23) 0 (nI s)) 1 (rf_of w s 0))) from am_row_s0) ?_
          refine am_aload_n (pc := 111) C dX10_ruled_111 rfl ?_
          refine am_getR (pc := 112) (j := 17) C dX10_ruled_112 f10_15 bn_3 sh_3 (rf_3_1 hR) ?_
          refine am_getR (pc := 115) (j := 23) C dX10_ruled_115 f10_189 bn_17 sh_17 (rf_17_7 hR) ?_
          refine am_iconstN (pc := 118) (k := 2) C dX10_ruled_118 ?_
          refine am_aload_n (pc := 119) C dX10_ruled_119 rfl ?_
          refine am_getR (pc := 120) (j := 25) C dX10_ruled_120 f10_22 bn_3 sh_3 (rf_3_2 hR) ?_
          refine am_getR (pc := 123) (j := 27) C dX10_ruled_123 f10_48 bn_25 sh_25 (rf_25_6 hR) ?_
          refine am_iload_n (pc := 126) C dX10_ruled_126 rfl ?_
          refine am_callSNi (Y := mX11_pick) (pc := 127) (st := [.int (nI 2), .ref 23]) (As := [.ref 27, .int (nI s)]) (x := ((h 27) s)) (h2 := (am_row h 23 (upd (upd (h 23) 0 (nI s)) 1 (rf_of w s 0)))) C dX10_ruled_127 k10_54 v_X11_pick rfl rfl (by decide) (Nat.zero_le _) (Nat.zero_le _) (Nat.le_of_ble_eq_true rfl) (c_X11_pick 27 s 10 bn_27 sh_27 (show s < 10 from by omega) (by decide)) ?_
          refine am_top (show ((h 27) s) = (rf_pl w s) from (hSc.2.1 s (by omega)).2.1) ?_
          refine am_iastore (pc := 130) C dX10_ruled_130 bn_23 sh_23 (vp_in_nI (by omega) (by decide)) ?_
          refine am_hp (show am_up (am_row h 23 (upd (upd (h 23) 0 (nI s)) 1 (rf_of w s 0))) 23 (nI 2).toNatClampNeg (rf_pl w s) = am_row (am_row h 23 (upd (upd (h 23) 0 (nI s)) 1 (rf_of w s 0))) 23 (upd (upd (upd (h 23) 0 (nI s)) 1 (rf_of w s 0)) 2 (rf_pl w s)) from by rw [nI_clamp (by omega)]; exact am_up_rw _ _ _ _) ?_
          refine am_hp (show am_row (am_row h 23 (upd (upd (h 23) 0 (nI s)) 1 (rf_of w s 0))) 23 (upd (upd (upd (h 23) 0 (nI s)) 1 (rf_of w s 0)) 2 (rf_pl w s)) = (am_row h 23 (upd (upd (upd (h 23) 0 (nI s)) 1 (rf_of w s 0)) 2 (rf_pl w s))) from am_row_s0) ?_
          refine am_aload_n (pc := 131) C dX10_ruled_131 rfl ?_
          refine am_getR (pc := 132) (j := 17) C dX10_ruled_132 f10_15 bn_3 sh_3 (rf_3_1 hR) ?_
          refine am_getR (pc := 135) (j := 23) C dX10_ruled_135 f10_189 bn_17 sh_17 (rf_17_7 hR) ?_
          refine am_iconstN (pc := 138) (k := 3) C dX10_ruled_138 ?_
          refine am_aload_n (pc := 139) C dX10_ruled_139 rfl ?_
          refine am_getR (pc := 140) (j := 25) C dX10_ruled_140 f10_22 bn_3 sh_3 (rf_3_2 hR) ?_
          refine am_getI (pc := 143) C dX10_ruled_143 f10_169 bn_25 sh_25 ?_
          refine am_top (show ((h 25) 0) = (w 5) from hSc.1.1) ?_
          refine am_iastore (pc := 146) C dX10_ruled_146 bn_23 sh_23 (vp_in_nI (by omega) (by decide)) ?_
          refine am_hp (show am_up (am_row h 23 (upd (upd (upd (h 23) 0 (nI s)) 1 (rf_of w s 0)) 2 (rf_pl w s))) 23 (nI 3).toNatClampNeg (w 5) = am_row (am_row h 23 (upd (upd (upd (h 23) 0 (nI s)) 1 (rf_of w s 0)) 2 (rf_pl w s))) 23 (upd (upd (upd (upd (h 23) 0 (nI s)) 1 (rf_of w s 0)) 2 (rf_pl w s)) 3 (w 5)) from by rw [nI_clamp (by omega)]; exact am_up_rw _ _ _ _) ?_
          refine am_hp (show am_row (am_row h 23 (upd (upd (upd (h 23) 0 (nI s)) 1 (rf_of w s 0)) 2 (rf_pl w s))) 23 (upd (upd (upd (upd (h 23) 0 (nI s)) 1 (rf_of w s 0)) 2 (rf_pl w s)) 3 (w 5)) = (am_row h 23 (upd (upd (upd (upd (h 23) 0 (nI s)) 1 (rf_of w s 0)) 2 (rf_pl w s)) 3 (w 5))) from am_row_s0) ?_
          refine am_aload_n (pc := 147) C dX10_ruled_147 rfl ?_
          refine am_getR (pc := 148) (j := 17) C dX10_ruled_148 f10_15 bn_3 sh_3 (rf_3_1 hR) ?_
          refine am_getR (pc := 151) (j := 23) C dX10_ruled_151 f10_189 bn_17 sh_17 (rf_17_7 hR) ?_
          refine am_iconstN (pc := 154) (k := 4) C dX10_ruled_154 ?_
          refine am_aload_n (pc := 155) C dX10_ruled_155 rfl ?_
          refine am_getR (pc := 156) (j := 25) C dX10_ruled_156 f10_22 bn_3 sh_3 (rf_3_2 hR) ?_
          refine am_getR (pc := 159) (j := 28) C dX10_ruled_159 f10_58 bn_25 sh_25 (rf_25_7 hR) ?_
          refine am_iload_n (pc := 162) C dX10_ruled_162 rfl ?_
          refine am_callSNi (Y := mX11_pick) (pc := 163) (st := [.int (nI 4), .ref 23]) (As := [.ref 28, .int (nI s)]) (x := ((h 28) s)) (h2 := (am_row h 23 (upd (upd (upd (upd (h 23) 0 (nI s)) 1 (rf_of w s 0)) 2 (rf_pl w s)) 3 (w 5)))) C dX10_ruled_163 k10_54 v_X11_pick rfl rfl (by decide) (Nat.zero_le _) (Nat.zero_le _) (Nat.le_of_ble_eq_true rfl) (c_X11_pick 28 s 10 bn_28 sh_28 (show s < 10 from by omega) (by decide)) ?_
          refine am_top (show ((h 28) s) = (nI (rf_kn w s)) from ((hSc.2.1 s (by omega)).2.2.1.trans (hV.2.1 s (by omega)).2.2.2.2.1.1)) ?_
          refine am_iastore (pc := 166) C dX10_ruled_166 bn_23 sh_23 (vp_in_nI (by omega) (by decide)) ?_
          refine am_hp (show am_up (am_row h 23 (upd (upd (upd (upd (h 23) 0 (nI s)) 1 (rf_of w s 0)) 2 (rf_pl w s)) 3 (w 5))) 23 (nI 4).toNatClampNeg (nI (rf_kn w s)) = am_row (am_row h 23 (upd (upd (upd (upd (h 23) 0 (nI s)) 1 (rf_of w s 0)) 2 (rf_pl w s)) 3 (w 5))) 23 (upd (upd (upd (upd (upd (h 23) 0 (nI s)) 1 (rf_of w s 0)) 2 (rf_pl w s)) 3 (w 5)) 4 (nI (rf_kn w s))) from by rw [nI_clamp (by omega)]; exact am_up_rw _ _ _ _) ?_
          refine am_hp (show am_row (am_row h 23 (upd (upd (upd (upd (h 23) 0 (nI s)) 1 (rf_of w s 0)) 2 (rf_pl w s)) 3 (w 5))) 23 (upd (upd (upd (upd (upd (h 23) 0 (nI s)) 1 (rf_of w s 0)) 2 (rf_pl w s)) 3 (w 5)) 4 (nI (rf_kn w s))) = (am_row h 23 (upd (upd (upd (upd (upd (h 23) 0 (nI s)) 1 (rf_of w s 0)) 2 (rf_pl w s)) 3 (w 5)) 4 (nI (rf_kn w s)))) from am_row_s0) ?_
          refine am_aload_n (pc := 167) C dX10_ruled_167 rfl ?_
          refine am_getR (pc := 168) (j := 17) C dX10_ruled_168 f10_15 bn_3 sh_3 (rf_3_1 hR) ?_
          refine am_getR (pc := 171) (j := 23) C dX10_ruled_171 f10_189 bn_17 sh_17 (rf_17_7 hR) ?_
          refine am_iconstN (pc := 174) (k := 5) C dX10_ruled_174 ?_
          refine am_aload_n (pc := 175) C dX10_ruled_175 rfl ?_
          refine am_getR (pc := 176) (j := 25) C dX10_ruled_176 f10_22 bn_3 sh_3 (rf_3_2 hR) ?_
          refine am_getR (pc := 179) (j := 30) C dX10_ruled_179 f10_64 bn_25 sh_25 (rf_25_9 hR) ?_
          refine am_iload_n (pc := 182) C dX10_ruled_182 rfl ?_
          refine am_callSNi (Y := mX11_pick) (pc := 183) (st := [.int (nI 5), .ref 23]) (As := [.ref 30, .int (nI s)]) (x := ((h 30) s)) (h2 := (am_row h 23 (upd (upd (upd (upd (upd (h 23) 0 (nI s)) 1 (rf_of w s 0)) 2 (rf_pl w s)) 3 (w 5)) 4 (nI (rf_kn w s))))) C dX10_ruled_183 k10_54 v_X11_pick rfl rfl (by decide) (Nat.zero_le _) (Nat.zero_le _) (Nat.le_of_ble_eq_true rfl) (c_X11_pick 30 s 10 bn_30 sh_30 (show s < 10 from by omega) (by decide)) ?_
          refine am_top (show ((h 30) s) = (rf_use w s) from (hSc.2.1 s (by omega)).2.2.2.2.1) ?_
          refine am_callSi (Y := mJ6_bitCount_0f7a4) (pc := 186) (st := [.int (nI 5), .ref 23]) (As := [.int (rf_use w s)]) (x := (rf_pc (rf_use w s))) (h2 := (am_row h 23 (upd (upd (upd (upd (upd (h 23) 0 (nI s)) 1 (rf_of w s 0)) 2 (rf_pl w s)) 3 (w 5)) 4 (nI (rf_kn w s))))) C dX10_ruled_186 k10_107 v_J6_bitCount_0f7a4 rfl rfl (by decide) (Nat.zero_le _) (Nat.zero_le _) (Nat.le_of_ble_eq_true rfl) (c_J6_bitCount_0f7a4 hR (rf_use w s)) ?_
          refine am_iastore (pc := 189) C dX10_ruled_189 bn_23 sh_23 (vp_in_nI (by omega) (by decide)) ?_
          refine am_hp (show am_up (am_row h 23 (upd (upd (upd (upd (upd (h 23) 0 (nI s)) 1 (rf_of w s 0)) 2 (rf_pl w s)) 3 (w 5)) 4 (nI (rf_kn w s)))) 23 (nI 5).toNatClampNeg (rf_pc (rf_use w s)) = am_row (am_row h 23 (upd (upd (upd (upd (upd (h 23) 0 (nI s)) 1 (rf_of w s 0)) 2 (rf_pl w s)) 3 (w 5)) 4 (nI (rf_kn w s)))) 23 (upd (upd (upd (upd (upd (upd (h 23) 0 (nI s)) 1 (rf_of w s 0)) 2 (rf_pl w s)) 3 (w 5)) 4 (nI (rf_kn w s))) 5 (rf_pc (rf_use w s))) from by rw [nI_clamp (by omega)]; exact am_up_rw _ _ _ _) ?_
          refine am_hp (show am_row (am_row h 23 (upd (upd (upd (upd (upd (h 23) 0 (nI s)) 1 (rf_of w s 0)) 2 (rf_pl w s)) 3 (w 5)) 4 (nI (rf_kn w s)))) 23 (upd (upd (upd (upd (upd (upd (h 23) 0 (nI s)) 1 (rf_of w s 0)) 2 (rf_pl w s)) 3 (w 5)) 4 (nI (rf_kn w s))) 5 (rf_pc (rf_use w s))) = (am_row h 23 (upd (upd (upd (upd (upd (upd (h 23) 0 (nI s)) 1 (rf_of w s 0)) 2 (rf_pl w s)) 3 (w 5)) 4 (nI (rf_kn w s))) 5 (rf_pc (rf_use w s)))) from am_row_s0) ?_
          refine am_aload_n (pc := 190) C dX10_ruled_190 rfl ?_
          refine am_getR (pc := 191) (j := 17) C dX10_ruled_191 f10_15 bn_3 sh_3 (rf_3_1 hR) ?_
          refine am_getR (pc := 194) (j := 23) C dX10_ruled_194 f10_189 bn_17 sh_17 (rf_17_7 hR) ?_
          refine am_bipush (pc := 197) (v := nI 6) C dX10_ruled_197 (by decide) ?_
          refine am_iload_n (pc := 199) C dX10_ruled_199 rfl ?_
          refine am_iastore (pc := 200) C dX10_ruled_200 bn_23 sh_23 (vp_in_nI (by omega) (by decide)) ?_
          refine am_hp (show am_up (am_row h 23 (upd (upd (upd (upd (upd (upd (h 23) 0 (nI s)) 1 (rf_of w s 0)) 2 (rf_pl w s)) 3 (w 5)) 4 (nI (rf_kn w s))) 5 (rf_pc (rf_use w s)))) 23 (nI 6).toNatClampNeg (nI (rf_cnt (cl_foe w s) (rf_S w))) = am_row (am_row h 23 (upd (upd (upd (upd (upd (upd (h 23) 0 (nI s)) 1 (rf_of w s 0)) 2 (rf_pl w s)) 3 (w 5)) 4 (nI (rf_kn w s))) 5 (rf_pc (rf_use w s)))) 23 (upd (upd (upd (upd (upd (upd (upd (h 23) 0 (nI s)) 1 (rf_of w s 0)) 2 (rf_pl w s)) 3 (w 5)) 4 (nI (rf_kn w s))) 5 (rf_pc (rf_use w s))) 6 (nI (rf_cnt (cl_foe w s) (rf_S w)))) from by rw [nI_clamp (by omega)]; exact am_up_rw _ _ _ _) ?_
          refine am_hp (show am_row (am_row h 23 (upd (upd (upd (upd (upd (upd (h 23) 0 (nI s)) 1 (rf_of w s 0)) 2 (rf_pl w s)) 3 (w 5)) 4 (nI (rf_kn w s))) 5 (rf_pc (rf_use w s)))) 23 (upd (upd (upd (upd (upd (upd (upd (h 23) 0 (nI s)) 1 (rf_of w s 0)) 2 (rf_pl w s)) 3 (w 5)) 4 (nI (rf_kn w s))) 5 (rf_pc (rf_use w s))) 6 (nI (rf_cnt (cl_foe w s) (rf_S w)))) = (am_row h 23 (upd (upd (upd (upd (upd (upd (upd (h 23) 0 (nI s)) 1 (rf_of w s 0)) 2 (rf_pl w s)) 3 (w 5)) 4 (nI (rf_kn w s))) 5 (rf_pc (rf_use w s))) 6 (nI (rf_cnt (cl_foe w s) (rf_S w))))) from am_row_s0) ?_
          refine am_aload_n (pc := 201) C dX10_ruled_201 rfl ?_
          refine am_getR (pc := 202) (j := 17) C dX10_ruled_202 f10_15 bn_3 sh_3 (rf_3_1 hR) ?_
          refine am_getR (pc := 205) (j := 23) C dX10_ruled_205 f10_189 bn_17 sh_17 (rf_17_7 hR) ?_
          refine am_bipush (pc := 208) (v := nI 7) C dX10_ruled_208 (by decide) ?_
          refine am_iload (pc := 210) C dX10_ruled_210 rfl ?_
          refine am_if_neN (pc := 212) (tgt := 219) C dX10_ruled_212 (by decide) (by omega) (fun q212 => ?_) (fun q212 => ?_)
          · skip
            refine am_iconstN (pc := 219) (k := 0) C dX10_ruled_219 ?_
            refine am_top (show (nI 0) = (rf_fact w 7 (nI 0) s) from (by rw [← cl_alone hV hs, if_neg (by omega)])) ?_
            refine am_iastore (pc := 220) C dX10_ruled_220 bn_23 sh_23 (vp_in_nI (by omega) (by decide)) ?_
            refine am_hp (show am_up (am_row h 23 (upd (upd (upd (upd (upd (upd (upd (h 23) 0 (nI s)) 1 (rf_of w s 0)) 2 (rf_pl w s)) 3 (w 5)) 4 (nI (rf_kn w s))) 5 (rf_pc (rf_use w s))) 6 (nI (rf_cnt (cl_foe w s) (rf_S w))))) 23 (nI 7).toNatClampNeg (rf_fact w 7 (nI 0) s) = am_row (am_row h 23 (upd (upd (upd (upd (upd (upd (upd (h 23) 0 (nI s)) 1 (rf_of w s 0)) 2 (rf_pl w s)) 3 (w 5)) 4 (nI (rf_kn w s))) 5 (rf_pc (rf_use w s))) 6 (nI (rf_cnt (cl_foe w s) (rf_S w))))) 23 (upd (upd (upd (upd (upd (upd (upd (upd (h 23) 0 (nI s)) 1 (rf_of w s 0)) 2 (rf_pl w s)) 3 (w 5)) 4 (nI (rf_kn w s))) 5 (rf_pc (rf_use w s))) 6 (nI (rf_cnt (cl_foe w s) (rf_S w)))) 7 (rf_fact w 7 (nI 0) s)) from by rw [nI_clamp (by omega)]; exact am_up_rw _ _ _ _) ?_
            refine am_hp (show am_row (am_row h 23 (upd (upd (upd (upd (upd (upd (upd (h 23) 0 (nI s)) 1 (rf_of w s 0)) 2 (rf_pl w s)) 3 (w 5)) 4 (nI (rf_kn w s))) 5 (rf_pc (rf_use w s))) 6 (nI (rf_cnt (cl_foe w s) (rf_S w))))) 23 (upd (upd (upd (upd (upd (upd (upd (upd (h 23) 0 (nI s)) 1 (rf_of w s 0)) 2 (rf_pl w s)) 3 (w 5)) 4 (nI (rf_kn w s))) 5 (rf_pc (rf_use w s))) 6 (nI (rf_cnt (cl_foe w s) (rf_S w)))) 7 (rf_fact w 7 (nI 0) s)) = (am_row h 23 (upd (upd (upd (upd (upd (upd (upd (upd (h 23) 0 (nI s)) 1 (rf_of w s 0)) 2 (rf_pl w s)) 3 (w 5)) 4 (nI (rf_kn w s))) 5 (rf_pc (rf_use w s))) 6 (nI (rf_cnt (cl_foe w s) (rf_S w)))) 7 (rf_fact w 7 (nI 0) s))) from am_row_s0) ?_
            refine am_aload_n (pc := 221) C dX10_ruled_221 rfl ?_
            refine am_getR (pc := 222) (j := 17) C dX10_ruled_222 f10_15 bn_3 sh_3 (rf_3_1 hR) ?_
            refine am_iload_n (pc := 225) C dX10_ruled_225 rfl ?_
            refine am_callVir (Y := mX1_sumOf) (pc := 226) (st := []) (As := [.int (nI kd)]) (x := (nI (min (rf_sayn w kd (rf_nat ((upd (upd (upd (upd (upd (upd (upd (upd (h 23) 0 (nI s)) 1 (rf_of w s 0)) 2 (rf_pl w s)) 3 (w 5)) 4 (nI (rf_kn w s))) 5 (rf_pc (rf_use w s))) 6 (nI (rf_cnt (cl_foe w s) (rf_S w)))) 7 (rf_fact w 7 (nI 0) s)) 0)) (rf_nat (w 731))) 100))) (PP := fun c9 => cl_fr ((am_row h 23 (upd (upd (upd (upd (upd (upd (upd (upd (h 23) 0 (nI s)) 1 (rf_of w s 0)) 2 (rf_pl w s)) 3 (w 5)) 4 (nI (rf_kn w s))) 5 (rf_pc (rf_use w s))) 6 (nI (rf_cnt (cl_foe w s) (rf_S w)))) 7 (rf_fact w 7 (nI 0) s)))) c9 24 1) C dX10_ruled_226 k10_192 v_X1_sumOf rfl rfl bn_17 sh_17 ⟨by decide, rfl⟩ (by decide) (Nat.zero_le _) (Nat.zero_le _) (Nat.le_of_ble_eq_true rfl) (c_X1_sumOf hR kd w (show rf_Lw w from hLw) (show rf_Lk w from hLk) (show cl_La ((am_row h 23 (upd (upd (upd (upd (upd (upd (upd (upd (h 23) 0 (nI s)) 1 (rf_of w s 0)) 2 (rf_pl w s)) 3 (w 5)) 4 (nI (rf_kn w s))) 5 (rf_pc (rf_use w s))) 6 (nI (rf_cnt (cl_foe w s) (rf_S w)))) 7 (rf_fact w 7 (nI 0) s)))) 17 w from (cl_La_eq (fun i a b => am_row_ne _ _ _ (by omega)) hA)) (show 0 < rf_nat (w 4) from h4) (show kd < 3 from hkd) (show ∀ c, c < 8 → (upd (upd (upd (upd (upd (upd (upd (upd (h 23) 0 (nI s)) 1 (rf_of w s 0)) 2 (rf_pl w s)) 3 (w 5)) 4 (nI (rf_kn w s))) 5 (rf_pc (rf_use w s))) 6 (nI (rf_cnt (cl_foe w s) (rf_S w)))) 7 (rf_fact w 7 (nI 0) s)) c = rf_fact w c (nI 0) (rf_nat ((upd (upd (upd (upd (upd (upd (upd (upd (h 23) 0 (nI s)) 1 (rf_of w s 0)) 2 (rf_pl w s)) 3 (w 5)) 4 (nI (rf_kn w s))) 5 (rf_pc (rf_use w s))) 6 (nI (rf_cnt (cl_foe w s) (rf_S w)))) 7 (rf_fact w 7 (nI 0) s)) 0)) from (cl_pts (w := w) (by omega) rfl rfl rfl hIs.2.2.2.2.1.1.symm rfl (cl_foes hV hs) rfl))) (fun g226_0 hg226_0 => ?_)
            have F226 := hg226_0
            refine am_top (show (nI (min (rf_sayn w kd (rf_nat ((upd (upd (upd (upd (upd (upd (upd (upd (h 23) 0 (nI s)) 1 (rf_of w s 0)) 2 (rf_pl w s)) 3 (w 5)) 4 (nI (rf_kn w s))) 5 (rf_pc (rf_use w s))) 6 (nI (rf_cnt (cl_foe w s) (rf_S w)))) 7 (rf_fact w 7 (nI 0) s)) 0)) (rf_nat (w 731))) 100)) = (nI (min (rf_sayn w kd s (rf_nat (w 731))) 100)) from (congrArg (fun z => nI (min (rf_sayn w kd z (rf_nat (w 731))) 100)) (cl_p0 (by omega)))) ?_
            exact am_iretir T dX10_ruled_229 rfl (Nat.le_refl _) (Nat.le_refl _) (by rw [cl_says, if_neg (by omega)]) rfl (fun i h9 => (F226 i (by omega)).trans (am_row_ne _ _ _ (by omega)))
          · skip
            refine am_iconstN (pc := 215) (k := 1) C dX10_ruled_215 ?_
            refine am_goto (pc := 216) (tgt := 220) C dX10_ruled_216 (by decide) ?_
            refine am_top (show (nI 1) = (rf_fact w 7 (nI 0) s) from (by rw [← cl_alone hV hs, if_pos (by omega)])) ?_
            refine am_iastore (pc := 220) C dX10_ruled_220 bn_23 sh_23 (vp_in_nI (by omega) (by decide)) ?_
            refine am_hp (show am_up (am_row h 23 (upd (upd (upd (upd (upd (upd (upd (h 23) 0 (nI s)) 1 (rf_of w s 0)) 2 (rf_pl w s)) 3 (w 5)) 4 (nI (rf_kn w s))) 5 (rf_pc (rf_use w s))) 6 (nI (rf_cnt (cl_foe w s) (rf_S w))))) 23 (nI 7).toNatClampNeg (rf_fact w 7 (nI 0) s) = am_row (am_row h 23 (upd (upd (upd (upd (upd (upd (upd (h 23) 0 (nI s)) 1 (rf_of w s 0)) 2 (rf_pl w s)) 3 (w 5)) 4 (nI (rf_kn w s))) 5 (rf_pc (rf_use w s))) 6 (nI (rf_cnt (cl_foe w s) (rf_S w))))) 23 (upd (upd (upd (upd (upd (upd (upd (upd (h 23) 0 (nI s)) 1 (rf_of w s 0)) 2 (rf_pl w s)) 3 (w 5)) 4 (nI (rf_kn w s))) 5 (rf_pc (rf_use w s))) 6 (nI (rf_cnt (cl_foe w s) (rf_S w)))) 7 (rf_fact w 7 (nI 0) s)) from by rw [nI_clamp (by omega)]; exact am_up_rw _ _ _ _) ?_
            refine am_hp (show am_row (am_row h 23 (upd (upd (upd (upd (upd (upd (upd (h 23) 0 (nI s)) 1 (rf_of w s 0)) 2 (rf_pl w s)) 3 (w 5)) 4 (nI (rf_kn w s))) 5 (rf_pc (rf_use w s))) 6 (nI (rf_cnt (cl_foe w s) (rf_S w))))) 23 (upd (upd (upd (upd (upd (upd (upd (upd (h 23) 0 (nI s)) 1 (rf_of w s 0)) 2 (rf_pl w s)) 3 (w 5)) 4 (nI (rf_kn w s))) 5 (rf_pc (rf_use w s))) 6 (nI (rf_cnt (cl_foe w s) (rf_S w)))) 7 (rf_fact w 7 (nI 0) s)) = (am_row h 23 (upd (upd (upd (upd (upd (upd (upd (upd (h 23) 0 (nI s)) 1 (rf_of w s 0)) 2 (rf_pl w s)) 3 (w 5)) 4 (nI (rf_kn w s))) 5 (rf_pc (rf_use w s))) 6 (nI (rf_cnt (cl_foe w s) (rf_S w)))) 7 (rf_fact w 7 (nI 0) s))) from am_row_s0) ?_
            refine am_aload_n (pc := 221) C dX10_ruled_221 rfl ?_
            refine am_getR (pc := 222) (j := 17) C dX10_ruled_222 f10_15 bn_3 sh_3 (rf_3_1 hR) ?_
            refine am_iload_n (pc := 225) C dX10_ruled_225 rfl ?_
            refine am_callVir (Y := mX1_sumOf) (pc := 226) (st := []) (As := [.int (nI kd)]) (x := (nI (min (rf_sayn w kd (rf_nat ((upd (upd (upd (upd (upd (upd (upd (upd (h 23) 0 (nI s)) 1 (rf_of w s 0)) 2 (rf_pl w s)) 3 (w 5)) 4 (nI (rf_kn w s))) 5 (rf_pc (rf_use w s))) 6 (nI (rf_cnt (cl_foe w s) (rf_S w)))) 7 (rf_fact w 7 (nI 0) s)) 0)) (rf_nat (w 731))) 100))) (PP := fun c9 => cl_fr ((am_row h 23 (upd (upd (upd (upd (upd (upd (upd (upd (h 23) 0 (nI s)) 1 (rf_of w s 0)) 2 (rf_pl w s)) 3 (w 5)) 4 (nI (rf_kn w s))) 5 (rf_pc (rf_use w s))) 6 (nI (rf_cnt (cl_foe w s) (rf_S w)))) 7 (rf_fact w 7 (nI 0) s)))) c9 24 1) C dX10_ruled_226 k10_192 v_X1_sumOf rfl rfl bn_17 sh_17 ⟨by decide, rfl⟩ (by decide) (Nat.zero_le _) (Nat.zero_le _) (Nat.le_of_ble_eq_true rfl) (c_X1_sumOf hR kd w (show rf_Lw w from hLw) (show rf_Lk w from hLk) (show cl_La ((am_row h 23 (upd (upd (upd (upd (upd (upd (upd (upd (h 23) 0 (nI s)) 1 (rf_of w s 0)) 2 (rf_pl w s)) 3 (w 5)) 4 (nI (rf_kn w s))) 5 (rf_pc (rf_use w s))) 6 (nI (rf_cnt (cl_foe w s) (rf_S w)))) 7 (rf_fact w 7 (nI 0) s)))) 17 w from (cl_La_eq (fun i a b => am_row_ne _ _ _ (by omega)) hA)) (show 0 < rf_nat (w 4) from h4) (show kd < 3 from hkd) (show ∀ c, c < 8 → (upd (upd (upd (upd (upd (upd (upd (upd (h 23) 0 (nI s)) 1 (rf_of w s 0)) 2 (rf_pl w s)) 3 (w 5)) 4 (nI (rf_kn w s))) 5 (rf_pc (rf_use w s))) 6 (nI (rf_cnt (cl_foe w s) (rf_S w)))) 7 (rf_fact w 7 (nI 0) s)) c = rf_fact w c (nI 0) (rf_nat ((upd (upd (upd (upd (upd (upd (upd (upd (h 23) 0 (nI s)) 1 (rf_of w s 0)) 2 (rf_pl w s)) 3 (w 5)) 4 (nI (rf_kn w s))) 5 (rf_pc (rf_use w s))) 6 (nI (rf_cnt (cl_foe w s) (rf_S w)))) 7 (rf_fact w 7 (nI 0) s)) 0)) from (cl_pts (w := w) (by omega) rfl rfl rfl hIs.2.2.2.2.1.1.symm rfl (cl_foes hV hs) rfl))) (fun g226_1 hg226_1 => ?_)
            have F226 := hg226_1
            refine am_top (show (nI (min (rf_sayn w kd (rf_nat ((upd (upd (upd (upd (upd (upd (upd (upd (h 23) 0 (nI s)) 1 (rf_of w s 0)) 2 (rf_pl w s)) 3 (w 5)) 4 (nI (rf_kn w s))) 5 (rf_pc (rf_use w s))) 6 (nI (rf_cnt (cl_foe w s) (rf_S w)))) 7 (rf_fact w 7 (nI 0) s)) 0)) (rf_nat (w 731))) 100)) = (nI (min (rf_sayn w kd s (rf_nat (w 731))) 100)) from (congrArg (fun z => nI (min (rf_sayn w kd z (rf_nat (w 731))) 100)) (cl_p0 (by omega)))) ?_
            exact am_iretir T dX10_ruled_229 rfl (Nat.le_refl _) (Nat.le_refl _) (by rw [cl_says, if_neg (by omega)]) rfl (fun i h9 => (F226 i (by omega)).trans (am_row_ne _ _ _ (by omega)))
        · skip
          exact absurd q37 (by omega)
      | succ j28 ih28 =>
        intro i28 hi28 
        have hl28 : i28 < rf_S w := by omega
        have hcf2 := hcf i28
        have hcg2 := hcg i28
        refine am_iload (pc := 28) C dX10_ruled_28 rfl ?_
        refine am_aload_n (pc := 30) C dX10_ruled_30 rfl ?_
        refine am_getR (pc := 31) (j := 4) C dX10_ruled_31 f10_9 bn_3 sh_3 (rf_3_0 hR) ?_
        refine am_getI (pc := 34) C dX10_ruled_34 f10_138 bn_4 sh_4 ?_
        refine am_top (show ((h 4) 2) = (nI (rf_S w)) from (hLo.1.2.2.1.trans hV.1.2.1.1)) ?_
        refine am_icmp_geN (pc := 37) (tgt := 81) C dX10_ruled_37 (by decide) (by omega) (by omega) (fun q37 => ?_) (fun q37 => ?_)
        · skip
          exact absurd q37 (by omega)
        · skip
          refine am_iload (pc := 40) C dX10_ruled_40 rfl ?_
          refine am_iload_n (pc := 42) C dX10_ruled_42 rfl ?_
          refine am_icmp_eqN (pc := 43) (tgt := 75) C dX10_ruled_43 (by decide) (by omega) (by omega) (fun q43 => ?_) (fun q43 => ?_)
          · skip
            refine am_iincN (pc := 75) (ls' := [(0, .ref 3), (1, .int (nI s)), (2, .int (nI kd)), (3, .int (nI (rf_cnt (cl_foe w s) i28))), (4, .int (nI (rf_cnt (cl_frd w s) i28))), (5, .int (nI (i28 + 1)))]) C dX10_ruled_75 rfl (am_up1 _) (by decide) rfl ?_
            refine am_goto (pc := 78) (tgt := 28) C dX10_ruled_78 (by decide) ?_
            refine am_lsv (ls' := [(0, .ref 3), (1, .int (nI s)), (2, .int (nI kd)), (3, .int (nI (rf_cnt (cl_foe w s) (i28 + 1)))), (4, .int (nI (rf_cnt (cl_frd w s) i28))), (5, .int (nI (i28 + 1)))]) (congrArg (fun z9 : Int32 => ([(0, .ref 3), (1, .int (nI s)), (2, .int (nI kd)), (3, Value.int z9), (4, .int (nI (rf_cnt (cl_frd w s) i28))), (5, .int (nI (i28 + 1)))] : List (Nat × Value))) (show (nI (rf_cnt (cl_foe w s) i28)) = (nI (rf_cnt (cl_foe w s) (i28 + 1))) from rf_cnt_f (by rw [cl_foe, decide_eq_true q43]; rfl))) ?_
            refine am_lsv (ls' := [(0, .ref 3), (1, .int (nI s)), (2, .int (nI kd)), (3, .int (nI (rf_cnt (cl_foe w s) (i28 + 1)))), (4, .int (nI (rf_cnt (cl_frd w s) (i28 + 1)))), (5, .int (nI (i28 + 1)))]) (congrArg (fun z9 : Int32 => ([(0, .ref 3), (1, .int (nI s)), (2, .int (nI kd)), (3, .int (nI (rf_cnt (cl_foe w s) (i28 + 1)))), (4, Value.int z9), (5, .int (nI (i28 + 1)))] : List (Nat × Value))) (show (nI (rf_cnt (cl_frd w s) i28)) = (nI (rf_cnt (cl_frd w s) (i28 + 1))) from rf_cnt_f (by rw [cl_frd, decide_eq_true q43]; rfl))) ?_
            exact ih28 (i28 + 1) (by omega) 
          · skip
            refine am_aload_n (pc := 46) C dX10_ruled_46 rfl ?_
            refine am_iload_n (pc := 47) C dX10_ruled_47 rfl ?_
            refine am_iload (pc := 48) C dX10_ruled_48 rfl ?_
            refine am_callVi (Y := mX10_together) (pc := 50) (st := []) (As := [.int (nI s), .int (nI i28)]) (x := (am_b (decide (rf_pl w s = rf_pl w i28)))) (h2 := h) C dX10_ruled_50 k10_144 v_X10_together rfl rfl bn_3 sh_3 ⟨by decide, rfl⟩ (by decide) (Nat.zero_le _) (Nat.zero_le _) (Nat.le_of_ble_eq_true rfl) (c_X10_together hR s i28 w hV hLo hSc hs (show i28 < rf_S w from by omega)) ?_
            refine am_if_eqB (pc := 53) (tgt := 75) C dX10_ruled_53 (by decide) (fun q53 => ?_) (fun q53 => ?_)
            · skip
              refine am_iincN (pc := 75) (ls' := [(0, .ref 3), (1, .int (nI s)), (2, .int (nI kd)), (3, .int (nI (rf_cnt (cl_foe w s) i28))), (4, .int (nI (rf_cnt (cl_frd w s) i28))), (5, .int (nI (i28 + 1)))]) C dX10_ruled_75 rfl (am_up1 _) (by decide) rfl ?_
              refine am_goto (pc := 78) (tgt := 28) C dX10_ruled_78 (by decide) ?_
              refine am_lsv (ls' := [(0, .ref 3), (1, .int (nI s)), (2, .int (nI kd)), (3, .int (nI (rf_cnt (cl_foe w s) (i28 + 1)))), (4, .int (nI (rf_cnt (cl_frd w s) i28))), (5, .int (nI (i28 + 1)))]) (congrArg (fun z9 : Int32 => ([(0, .ref 3), (1, .int (nI s)), (2, .int (nI kd)), (3, Value.int z9), (4, .int (nI (rf_cnt (cl_frd w s) i28))), (5, .int (nI (i28 + 1)))] : List (Nat × Value))) (show (nI (rf_cnt (cl_foe w s) i28)) = (nI (rf_cnt (cl_foe w s) (i28 + 1))) from rf_cnt_f (by rw [cl_foe, q53, Bool.false_and, Bool.and_false]))) ?_
              refine am_lsv (ls' := [(0, .ref 3), (1, .int (nI s)), (2, .int (nI kd)), (3, .int (nI (rf_cnt (cl_foe w s) (i28 + 1)))), (4, .int (nI (rf_cnt (cl_frd w s) (i28 + 1)))), (5, .int (nI (i28 + 1)))]) (congrArg (fun z9 : Int32 => ([(0, .ref 3), (1, .int (nI s)), (2, .int (nI kd)), (3, .int (nI (rf_cnt (cl_foe w s) (i28 + 1)))), (4, Value.int z9), (5, .int (nI (i28 + 1)))] : List (Nat × Value))) (show (nI (rf_cnt (cl_frd w s) i28)) = (nI (rf_cnt (cl_frd w s) (i28 + 1))) from rf_cnt_f (by rw [cl_frd, q53, Bool.false_and, Bool.and_false]))) ?_
              exact ih28 (i28 + 1) (by omega) 
            · skip
              refine am_aload_n (pc := 56) C dX10_ruled_56 rfl ?_
              refine am_iload_n (pc := 57) C dX10_ruled_57 rfl ?_
              refine am_iload (pc := 58) C dX10_ruled_58 rfl ?_
              refine am_callVi (Y := mX10_ofOneSide) (pc := 60) (st := []) (As := [.int (nI s), .int (nI i28)]) (x := (am_b (decide (rf_of w s 0 = rf_of w i28 0)))) (h2 := h) C dX10_ruled_60 k10_141 v_X10_ofOneSide rfl rfl bn_3 sh_3 ⟨by decide, rfl⟩ (by decide) (Nat.zero_le _) (Nat.zero_le _) (Nat.le_of_ble_eq_true rfl) (c_X10_ofOneSide hR s i28 w hV hLo hSc hs (show i28 < rf_S w from by omega)) ?_
              refine am_if_eqB (pc := 63) (tgt := 72) C dX10_ruled_63 (by decide) (fun q63 => ?_) (fun q63 => ?_)
              · skip
                refine am_iincN (pc := 72) (ls' := [(0, .ref 3), (1, .int (nI s)), (2, .int (nI kd)), (3, .int (nI (rf_cnt (cl_foe w s) i28 + 1))), (4, .int (nI (rf_cnt (cl_frd w s) i28))), (5, .int (nI i28))]) C dX10_ruled_72 rfl (am_up1 _) (by decide) rfl ?_
                refine am_iincN (pc := 75) (ls' := [(0, .ref 3), (1, .int (nI s)), (2, .int (nI kd)), (3, .int (nI (rf_cnt (cl_foe w s) i28 + 1))), (4, .int (nI (rf_cnt (cl_frd w s) i28))), (5, .int (nI (i28 + 1)))]) C dX10_ruled_75 rfl (am_up1 _) (by decide) rfl ?_
                refine am_goto (pc := 78) (tgt := 28) C dX10_ruled_78 (by decide) ?_
                refine am_lsv (ls' := [(0, .ref 3), (1, .int (nI s)), (2, .int (nI kd)), (3, .int (nI (rf_cnt (cl_foe w s) (i28 + 1)))), (4, .int (nI (rf_cnt (cl_frd w s) i28))), (5, .int (nI (i28 + 1)))]) (congrArg (fun z9 : Int32 => ([(0, .ref 3), (1, .int (nI s)), (2, .int (nI kd)), (3, Value.int z9), (4, .int (nI (rf_cnt (cl_frd w s) i28))), (5, .int (nI (i28 + 1)))] : List (Nat × Value))) (show (nI (rf_cnt (cl_foe w s) i28 + 1)) = (nI (rf_cnt (cl_foe w s) (i28 + 1))) from rf_cnt_t (by rw [cl_foe, decide_eq_false q43, q53, q63]; rfl))) ?_
                refine am_lsv (ls' := [(0, .ref 3), (1, .int (nI s)), (2, .int (nI kd)), (3, .int (nI (rf_cnt (cl_foe w s) (i28 + 1)))), (4, .int (nI (rf_cnt (cl_frd w s) (i28 + 1)))), (5, .int (nI (i28 + 1)))]) (congrArg (fun z9 : Int32 => ([(0, .ref 3), (1, .int (nI s)), (2, .int (nI kd)), (3, .int (nI (rf_cnt (cl_foe w s) (i28 + 1)))), (4, Value.int z9), (5, .int (nI (i28 + 1)))] : List (Nat × Value))) (show (nI (rf_cnt (cl_frd w s) i28)) = (nI (rf_cnt (cl_frd w s) (i28 + 1))) from rf_cnt_f (by rw [cl_frd, q63, Bool.and_false, Bool.and_false]))) ?_
                exact ih28 (i28 + 1) (by omega) 
              · skip
                refine am_iincN (pc := 66) (ls' := [(0, .ref 3), (1, .int (nI s)), (2, .int (nI kd)), (3, .int (nI (rf_cnt (cl_foe w s) i28))), (4, .int (nI (rf_cnt (cl_frd w s) i28 + 1))), (5, .int (nI i28))]) C dX10_ruled_66 rfl (am_up1 _) (by decide) rfl ?_
                refine am_goto (pc := 69) (tgt := 75) C dX10_ruled_69 (by decide) ?_
                refine am_iincN (pc := 75) (ls' := [(0, .ref 3), (1, .int (nI s)), (2, .int (nI kd)), (3, .int (nI (rf_cnt (cl_foe w s) i28))), (4, .int (nI (rf_cnt (cl_frd w s) i28 + 1))), (5, .int (nI (i28 + 1)))]) C dX10_ruled_75 rfl (am_up1 _) (by decide) rfl ?_
                refine am_goto (pc := 78) (tgt := 28) C dX10_ruled_78 (by decide) ?_
                refine am_lsv (ls' := [(0, .ref 3), (1, .int (nI s)), (2, .int (nI kd)), (3, .int (nI (rf_cnt (cl_foe w s) (i28 + 1)))), (4, .int (nI (rf_cnt (cl_frd w s) i28 + 1))), (5, .int (nI (i28 + 1)))]) (congrArg (fun z9 : Int32 => ([(0, .ref 3), (1, .int (nI s)), (2, .int (nI kd)), (3, Value.int z9), (4, .int (nI (rf_cnt (cl_frd w s) i28 + 1))), (5, .int (nI (i28 + 1)))] : List (Nat × Value))) (show (nI (rf_cnt (cl_foe w s) i28)) = (nI (rf_cnt (cl_foe w s) (i28 + 1))) from rf_cnt_f (by rw [cl_foe, q63, Bool.not_true, Bool.and_false, Bool.and_false]))) ?_
                refine am_lsv (ls' := [(0, .ref 3), (1, .int (nI s)), (2, .int (nI kd)), (3, .int (nI (rf_cnt (cl_foe w s) (i28 + 1)))), (4, .int (nI (rf_cnt (cl_frd w s) (i28 + 1)))), (5, .int (nI (i28 + 1)))]) (congrArg (fun z9 : Int32 => ([(0, .ref 3), (1, .int (nI s)), (2, .int (nI kd)), (3, .int (nI (rf_cnt (cl_foe w s) (i28 + 1)))), (4, Value.int z9), (5, .int (nI (i28 + 1)))] : List (Nat × Value))) (show (nI (rf_cnt (cl_frd w s) i28 + 1)) = (nI (rf_cnt (cl_frd w s) (i28 + 1))) from rf_cnt_t (by rw [cl_frd, decide_eq_false q43, q53, q63]; rfl))) ?_
                exact ih28 (i28 + 1) (by omega) 
    refine am_lsv (ls' := [(0, .ref 3), (1, .int (nI s)), (2, .int (nI kd)), (3, .int (nI (rf_cnt (cl_foe w s) 0))), (4, .int (nI 0)), (5, .int (nI 0))]) (congrArg (fun z9 : Int32 => ([(0, .ref 3), (1, .int (nI s)), (2, .int (nI kd)), (3, Value.int z9), (4, .int (nI 0)), (5, .int (nI 0))] : List (Nat × Value))) (show (nI 0) = (nI (rf_cnt (cl_foe w s) 0)) from rfl)) ?_
    refine am_lsv (ls' := [(0, .ref 3), (1, .int (nI s)), (2, .int (nI kd)), (3, .int (nI (rf_cnt (cl_foe w s) 0))), (4, .int (nI (rf_cnt (cl_frd w s) 0))), (5, .int (nI 0))]) (congrArg (fun z9 : Int32 => ([(0, .ref 3), (1, .int (nI s)), (2, .int (nI kd)), (3, .int (nI (rf_cnt (cl_foe w s) 0))), (4, Value.int z9), (5, .int (nI 0))] : List (Nat × Value))) (show (nI 0) = (nI (rf_cnt (cl_frd w s) 0)) from rfl)) ?_
    exact L28 (rf_S w) 0 (by omega) 
  · skip
    have h40 : rf_nat (w 4) = 0 := cl_A0 hA hLw q8
    refine am_aload_n (pc := 11) C dX10_ruled_11 rfl ?_
    refine am_getR (pc := 12) (j := 17) C dX10_ruled_12 f10_15 bn_3 sh_3 (rf_3_1 hR) ?_
    refine am_iload_n (pc := 15) C dX10_ruled_15 rfl ?_
    refine am_callVi (Y := mX1_withoutText) (pc := 16) (st := []) (As := [.int (nI kd)]) (x := (nI (if kd = 0 then 50 else if kd = 1 then 20 else 1))) (h2 := h) C dX10_ruled_16 k10_186 v_X1_withoutText rfl rfl bn_17 sh_17 ⟨by decide, rfl⟩ (by decide) (Nat.zero_le _) (Nat.zero_le _) (Nat.le_of_ble_eq_true rfl) (c_X1_withoutText hR kd hkd) ?_
    exact am_iretir T dX10_ruled_19 rfl (Nat.le_refl _) (Nat.le_refl _) (by rw [cl_says, if_pos h40]) rfl (fun _ _ => rfl)

