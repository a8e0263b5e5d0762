/-! THE CLASS: an hour in the world in which trials are made -/
section M32
def cl_fq (h c : am_H) : Prop := ∀ i, ((i ≠ 23 ∧ i ≠ 24) ∧ (i < 41 ∨ 56 ≤ i)) → c i = h i
end M32

set_option maxHeartbeats 400000 in
set_option maxRecDepth 100000 in
theorem c_X10_ruled_p {ad : Nat → Nat} {r : am_R} (hR : am_rs r) {h : am_H} (s : Nat) (kd : Nat) (w : rf_W) (hV : rf_I w) (hLo : cl_Lo (h) 4 w) (hSc : cl_Sc (h) 41 w) (hs : s < rf_S w) (hkd : kd < 3) (hLw : rf_Lw w) (hLk : rf_Lk w) (hA : cl_La (h) 17 w)  : am_CM mX10_ruled 4 0 0 [.ref 40, .int (nI s), .int (nI kd)] (am_VV ad) r h (am_pr (some (.int (nI (cl_says w kd s)))) r (fun c9 => cl_fr (h) c9 23 2)) := by
  refine am_CM.of (by decide +kernel) (Nat.le_of_ble_eq_true rfl) (fun X C T => ?_)
  show am_G X (am_VV ad) (0, 0) 0 [(0, .ref 40), (1, .int (nI s)), (2, .int (nI kd))] [] r h
  have hM9 : rf_M w < 17 := hV.1.1.2
  have hS9 : rf_S w < 11 := hV.1.2.1.2
  have hO9 : rf_O w < 11 := hV.1.2.2.2
  have hIs := hV.2.1 s hs
  have hcf := rf_cnt_le (cl_foe w s)
  have hcg := rf_cnt_le (cl_frd w s)
  refine am_aload_n (pc := 0) C dX10_ruled_0 rfl ?_
  refine am_getR (pc := 1) (j := 17) C dX10_ruled_1 f10_15 bn_40 sh_40 (rf_40_1 hR) ?_
  refine am_getI (pc := 4) C dX10_ruled_4 f10_183 bn_17 sh_17 ?_
  refine am_iconst (pc := 7) (v := -1) C dX10_ruled_7 rfl ?_
  refine am_icmp_ne (pc := 8) (tgt := 20) C dX10_ruled_8 (by decide) (fun q8 => ?_) (fun q8 => ?_)
  · skip
    have h4 : 0 < rf_nat (w 4) := Nat.pos_of_ne_zero (fun z => q8 (hA.1 z))
    refine am_iconstN (pc := 20) (k := 0) C dX10_ruled_20 ?_
    refine am_istore_n (pc := 21) (ls' := [(0, .ref 40), (1, .int (nI s)), (2, .int (nI kd)), (3, .int (nI 0))]) C dX10_ruled_21 (by decide) rfl ?_
    refine am_iconstN (pc := 22) (k := 0) C dX10_ruled_22 ?_
    refine am_istore (pc := 23) (ls' := [(0, .ref 40), (1, .int (nI s)), (2, .int (nI kd)), (3, .int (nI 0)), (4, .int (nI 0))]) C dX10_ruled_23 (by decide) rfl ?_
    refine am_iconstN (pc := 25) (k := 0) C dX10_ruled_25 ?_
    refine am_istore (pc := 26) (ls' := [(0, .ref 40), (1, .int (nI s)), (2, .int (nI kd)), (3, .int (nI 0)), (4, .int (nI 0)), (5, .int (nI 0))]) C dX10_ruled_26 (by decide) rfl ?_
    have L28 : ∀ (j28 i28 : Nat), i28 + j28 = rf_S w → am_G X (am_VV ad) (0, 0) 28 [(0, .ref 40), (1, .int (nI s)), (2, .int (nI kd)), (3, .int (nI (rf_cnt (cl_foe w s) i28))), (4, .int (nI (rf_cnt (cl_frd w s) i28))), (5, .int (nI i28))] [] r h := by
      intro j28
      induction j28 with
      | zero =>
        intro i28 hi28 
        obtain rfl : i28 = rf_S w := by omega
        have hcf2 := hcf (rf_S w)
        have hcg2 := hcg (rf_S w)
        refine am_iload (pc := 28) C dX10_ruled_28 rfl ?_
        refine am_aload_n (pc := 30) C dX10_ruled_30 rfl ?_
        refine am_getR (pc := 31) (j := 4) C dX10_ruled_31 f10_9 bn_40 sh_40 (rf_40_0 hR) ?_
        refine am_getI (pc := 34) C dX10_ruled_34 f10_138 bn_4 sh_4 ?_
        refine am_top (show ((h 4) 2) = (nI (rf_S w)) from (hLo.1.2.2.1.trans hV.1.2.1.1)) ?_
        refine am_icmp_geN (pc := 37) (tgt := 81) C dX10_ruled_37 (by decide) (by omega) (by omega) (fun q37 => ?_) (fun q37 => ?_)
        · skip
          refine am_aload_n (pc := 81) C dX10_ruled_81 rfl ?_
          refine am_getR (pc := 82) (j := 17) C dX10_ruled_82 f10_15 bn_40 sh_40 (rf_40_1 hR) ?_
          refine am_getR (pc := 85) (j := 23) C dX10_ruled_85 f10_189 bn_17 sh_17 (rf_17_7 hR) ?_
          refine am_iconstN (pc := 88) (k := 0) C dX10_ruled_88 ?_
          refine am_iload_n (pc := 89) C dX10_ruled_89 rfl ?_
          refine am_iastore (pc := 90) C dX10_ruled_90 bn_23 sh_23 (vp_in_nI (by omega) (by decide)) ?_
          refine am_hp (show am_up h 23 (nI 0).toNatClampNeg (nI s) = am_row h 23 (upd (h 23) 0 (nI s)) from by rw [nI_clamp (by omega)]; exact am_up_rw _ _ _ _) ?_
          refine am_aload_n (pc := 91) C dX10_ruled_91 rfl ?_
          refine am_getR (pc := 92) (j := 17) C dX10_ruled_92 f10_15 bn_40 sh_40 (rf_40_1 hR) ?_
          refine am_getR (pc := 95) (j := 23) C dX10_ruled_95 f10_189 bn_17 sh_17 (rf_17_7 hR) ?_
          refine am_iconstN (pc := 98) (k := 1) C dX10_ruled_98 ?_
          refine am_aload_n (pc := 99) C dX10_ruled_99 rfl ?_
          refine am_getR (pc := 100) (j := 4) C dX10_ruled_100 f10_9 bn_40 sh_40 (rf_40_0 hR) ?_
          refine am_getR (pc := 103) (j := 10) C dX10_ruled_103 f10_88 bn_4 sh_4 (rf_4_9 hR) ?_
          refine am_iload_n (pc := 106) C dX10_ruled_106 rfl ?_
          refine am_callSNi (Y := mX11_pick) (pc := 107) (st := [.int (nI 1), .ref 23]) (As := [.ref 10, .int (nI s)]) (x := ((h 10) s)) (h2 := (am_row h 23 (upd (h 23) 0 (nI s)))) C dX10_ruled_107 k10_54 v_X11_pick rfl rfl (by decide) (Nat.zero_le _) (Nat.zero_le _) (Nat.le_of_ble_eq_true rfl) (c_X11_pick 10 s 10 bn_10 sh_10 (show s < 10 from by omega) (by decide)) ?_
          refine am_top (show ((h 10) s) = (rf_of w s 0) from (hLo.2.2.1 s (by omega)).1) ?_
          refine am_iastore (pc := 110) C dX10_ruled_110 bn_23 sh_23 (vp_in_nI (by omega) (by decide)) ?_
          refine am_hp (show am_up (am_row h 23 (upd (h 23) 0 (nI s))) 23 (nI 1).toNatClampNeg (rf_of w s 0) = am_row (am_row h 23 (upd (h 23) 0 (nI s))) 23 (upd (upd (h 23) 0 (nI s)) 1 (rf_of w s 0)) from by rw [nI_clamp (by omega)]; exact am_up_rw _ _ _ _) ?_
          refine am_hp (show am_row (am_row h 23 (upd (h 23) 0 (nI s))) 23 (upd (upd (h 23) 0 (nI s)) 1 (rf_of w s 0)) = (am_row h 23 (upd (upd (h 23) 0 (nI s)) 1 (rf_of w s 0))) from am_row_s0) ?_
          refine am_aload_n (pc := 111) C dX10_ruled_111 rfl ?_
          refine am_getR (pc := 112) (j := 17) C dX10_ruled_112 f10_15 bn_40 sh_40 (rf_40_1 hR) ?_
          refine am_getR (pc := 115) (j := 23) C dX10_ruled_115 f10_189 bn_17 sh_17 (rf_17_7 hR) ?_
          refine am_iconstN (pc := 118) (k := 2) C dX10_ruled_118 ?_
          refine am_aload_n (pc := 119) C dX10_ruled_119 rfl ?_
          refine am_getR (pc := 120) (j := 41) C dX10_ruled_120 f10_22 bn_40 sh_40 (rf_40_2 hR) ?_
          refine am_getR (pc := 123) (j := 43) C dX10_ruled_123 f10_48 bn_41 sh_41 (rf_41_6 hR) ?_
          refine am_iload_n (pc := 126) C dX10_ruled_126 rfl ?_
          refine am_callSNi (Y := mX11_pick) (pc := 127) (st := [.int (nI 2), .ref 23]) (As := [.ref 43, .int (nI s)]) (x := ((h 43) s)) (h2 := (am_row h 23 (upd (upd (h 23) 0 (nI s)) 1 (rf_of w s 0)))) C dX10_ruled_127 k10_54 v_X11_pick rfl rfl (by decide) (Nat.zero_le _) (Nat.zero_le _) (Nat.le_of_ble_eq_true rfl) (c_X11_pick 43 s 10 bn_43 sh_43 (show s < 10 from by omega) (by decide)) ?_
          refine am_top (show ((h 43) s) = (rf_pl w s) from (hSc.2.1 s (by omega)).2.1) ?_
          refine am_iastore (pc := 130) C dX10_ruled_130 bn_23 sh_23 (vp_in_nI (by omega) (by decide)) ?_
          refine am_hp (show am_up (am_row h 23 (upd (upd (h 23) 0 (nI s)) 1 (rf_of w s 0))) 23 (nI 2).toNatClampNeg (rf_pl w s) = am_row (am_row h 23 (upd (upd (h 23) 0 (nI s)) 1 (rf_of w s 0))) 23 (upd (upd (upd (h 23) 0 (nI s)) 1 (rf_of w s 0)) 2 (rf_pl w s)) from by rw [nI_clamp (by omega)]; exact am_up_rw _ _ _ _) ?_
          refine am_hp (show am_row (am_row h 23 (upd (upd (h 23) 0 (nI s)) 1 (rf_of w s 0))) 23 (upd (upd (upd (h 23) 0 (nI s)) 1 (rf_of w s 0)) 2 (rf_pl w s)) = (am_row h 23 (upd (upd (upd (h 23) 0 (nI s)) 1 (rf_of w s 0)) 2 (rf_pl w s))) from am_row_s0) ?_
          refine am_aload_n (pc := 131) C dX10_ruled_131 rfl ?_
          refine am_getR (pc := 132) (j := 17) C dX10_ruled_132 f10_15 bn_40 sh_40 (rf_40_1 hR) ?_
          refine am_getR (pc := 135) (j := 23) C dX10_ruled_135 f10_189 bn_17 sh_17 (rf_17_7 hR) ?_
          refine am_iconstN (pc := 138) (k := 3) C dX10_ruled_138 ?_
          refine am_aload_n (pc := 139) C dX10_ruled_139 rfl ?_
          refine am_getR (pc := 140) (j := 41) C dX10_ruled_140 f10_22 bn_40 sh_40 (rf_40_2 hR) ?_
          refine am_getI (pc := 143) C dX10_ruled_143 f10_169 bn_41 sh_41 ?_
          refine am_top (show ((h 41) 0) = (w 5) from hSc.1.1) ?_
          refine am_iastore (pc := 146) C dX10_ruled_146 bn_23 sh_23 (vp_in_nI (by omega) (by decide)) ?_
          refine am_hp (show am_up (am_row h 23 (upd (upd (upd (h 23) 0 (nI s)) 1 (rf_of w s 0)) 2 (rf_pl w s))) 23 (nI 3).toNatClampNeg (w 5) = am_row (am_row h 23 (upd (upd (upd (h 23) 0 (nI s)) 1 (rf_of w s 0)) 2 (rf_pl w s))) 23 (upd (upd (upd (upd (h 23) 0 (nI s)) 1 (rf_of w s 0)) 2 (rf_pl w s)) 3 (w 5)) from by rw [nI_clamp (by omega)]; exact am_up_rw _ _ _ _) ?_
          refine am_hp (show am_row (am_row h 23 (upd (upd (upd (h 23) 0 (nI s)) 1 (rf_of w s 0)) 2 (rf_pl w s))) 23 (upd (upd (upd (upd (h 23) 0 (nI s)) 1 (rf_of w s 0)) 2 (rf_pl w s)) 3 (w 5)) = (am_row h 23 (upd (upd (upd (upd (h 23) 0 (nI s)) 1 (rf_of w s 0)) 2 (rf_pl w s)) 3 (w 5))) from am_row_s0) ?_
          refine am_aload_n (pc := 147) C dX10_ruled_147 rfl ?_
          refine am_getR (pc := 148) (j := 17) C dX10_ruled_148 f10_15 bn_40 sh_40 (rf_40_1 hR) ?_
          refine am_getR (pc := 151) (j := 23) C dX10_ruled_151 f10_189 bn_17 sh_17 (rf_17_7 hR) ?_
          refine am_iconstN (pc := 154) (k := 4) C dX10_ruled_154 ?_
          refine am_aload_n (pc := 155) C dX10_ruled_155 rfl ?_
          refine am_getR (pc := 156) (j := 41) C dX10_ruled_156 f10_22 bn_40 sh_40 (rf_40_2 hR) ?_
          refine am_getR (pc := 159) (j := 44) C dX10_ruled_159 f10_58 bn_41 sh_41 (rf_41_7 hR) ?_
          refine am_iload_n (pc := 162) C dX10_ruled_162 rfl ?_
          refine am_callSNi (Y := mX11_pick) (pc := 163) (st := [.int (nI 4), .ref 23]) (As := [.ref 44, .int (nI s)]) (x := ((h 44) s)) (h2 := (am_row h 23 (upd (upd (upd (upd (h 23) 0 (nI s)) 1 (rf_of w s 0)) 2 (rf_pl w s)) 3 (w 5)))) C dX10_ruled_163 k10_54 v_X11_pick rfl rfl (by decide) (Nat.zero_le _) (Nat.zero_le _) (Nat.le_of_ble_eq_true rfl) (c_X11_pick 44 s 10 bn_44 sh_44 (show s < 10 from by omega) (by decide)) ?_
          refine am_top (show ((h 44) s) = (nI (rf_kn w s)) from ((hSc.2.1 s (by omega)).2.2.1.trans (hV.2.1 s (by omega)).2.2.2.2.1.1)) ?_
          refine am_iastore (pc := 166) C dX10_ruled_166 bn_23 sh_23 (vp_in_nI (by omega) (by decide)) ?_
          refine am_hp (show am_up (am_row h 23 (upd (upd (upd (upd (h 23) 0 (nI s)) 1 (rf_of w s 0)) 2 (rf_pl w s)) 3 (w 5))) 23 (nI 4).toNatClampNeg (nI (rf_kn w s)) = am_row (am_row h 23 (upd (upd (upd (upd (h 23) 0 (nI s)) 1 (rf_of w s 0)) 2 (rf_pl w s)) 3 (w 5))) 23 (upd (upd (upd (upd (upd (h 23) 0 (nI s)) 1 (rf_of w s 0)) 2 (rf_pl w s)) 3 (w 5)) 4 (nI (rf_kn w s))) from by rw [nI_clamp (by omega)]; exact am_up_rw _ _ _ _) ?_
          refine am_hp (show am_row (am_row h 23 (upd (upd (upd (upd (h 23) 0 (nI s)) 1 (rf_of w s 0)) 2 (rf_pl w s)) 3 (w 5))) 23 (upd (upd (upd (upd (upd (h 23) 0 (nI s)) 1 (rf_of w s 0)) 2 (rf_pl w s)) 3 (w 5)) 4 (nI (rf_kn w s))) = (am_row h 23 (upd (upd (upd (upd (upd (h 23) 0 (nI s)) 1 (rf_of w s 0)) 2 (rf_pl w s)) 3 (w 5)) 4 (nI (rf_kn w s)))) from am_row_s0) ?_
          refine am_aload_n (pc := 167) C dX10_ruled_167 rfl ?_
          refine am_getR (pc := 168) (j := 17) C dX10_ruled_168 f10_15 bn_40 sh_40 (rf_40_1 hR) ?_
          refine am_getR (pc := 171) (j := 23) C dX10_ruled_171 f10_189 bn_17 sh_17 (rf_17_7 hR) ?_
          refine am_iconstN (pc := 174) (k := 5) C dX10_ruled_174 ?_
          refine am_aload_n (pc := 175) C dX10_ruled_175 rfl ?_
          refine am_getR (pc := 176) (j := 41) C dX10_ruled_176 f10_22 bn_40 sh_40 (rf_40_2 hR) ?_
          refine am_getR (pc := 179) (j := 46) C dX10_ruled_179 f10_64 bn_41 sh_41 (rf_41_9 hR) ?_
          refine am_iload_n (pc := 182) C dX10_ruled_182 rfl ?_
          refine am_callSNi (Y := mX11_pick) (pc := 183) (st := [.int (nI 5), .ref 23]) (As := [.ref 46, .int (nI s)]) (x := ((h 46) s)) (h2 := (am_row h 23 (upd (upd (upd (upd (upd (h 23) 0 (nI s)) 1 (rf_of w s 0)) 2 (rf_pl w s)) 3 (w 5)) 4 (nI (rf_kn w s))))) C dX10_ruled_183 k10_54 v_X11_pick rfl rfl (by decide) (Nat.zero_le _) (Nat.zero_le _) (Nat.le_of_ble_eq_true rfl) (c_X11_pick 46 s 10 bn_46 sh_46 (show s < 10 from by omega) (by decide)) ?_
          refine am_top (show ((h 46) s) = (rf_use w s) from (hSc.2.1 s (by omega)).2.2.2.2.1) ?_
          refine am_callSi (Y := mJ6_bitCount_0f7a4) (pc := 186) (st := [.int (nI 5), .ref 23]) (As := [.int (rf_use w s)]) (x := (rf_pc (rf_use w s))) (h2 := (am_row h 23 (upd (upd (upd (upd (upd (h 23) 0 (nI s)) 1 (rf_of w s 0)) 2 (rf_pl w s)) 3 (w 5)) 4 (nI (rf_kn w s))))) C dX10_ruled_186 k10_107 v_J6_bitCount_0f7a4 rfl rfl (by decide) (Nat.zero_le _) (Nat.zero_le _) (Nat.le_of_ble_eq_true rfl) (c_J6_bitCount_0f7a4 hR (rf_use w s)) ?_
          refine am_iastore (pc := 189) C dX10_ruled_189 bn_23 sh_23 (vp_in_nI (by omega) (by decide)) ?_
          refine am_hp (show am_up (am_row h 23 (upd (upd (upd (upd (upd (h 23) 0 (nI s)) 1 (rf_of w s 0)) 2 (rf_pl w s)) 3 (w 5)) 4 (nI (rf_kn w s)))) 23 (nI 5).toNatClampNeg (rf_pc (rf_use w s)) = am_row (am_row h 23 (upd (upd (upd (upd (upd (h 23) 0 (nI s)) 1 (rf_of w s 0)) 2 (rf_pl w s)) 3 (w 5)) 4 (nI (rf_kn w s)))) 23 (upd (upd (upd (upd (upd (upd (h 23) 0 (nI s)) 1 (rf_of w s 0)) 2 (rf_pl w s)) 3 (w 5)) 4 (nI (rf_kn w s))) 5 (rf_pc (rf_use w s))) from by rw [nI_clamp (by omega)]; exact am_up_rw _ _ _ _) ?_
          refine am_hp (show am_row (am_row h 23 (upd (upd (upd (upd (upd (h 23) 0 (nI s)) 1 (rf_of w s 0)) 2 (rf_pl w s)) 3 (w 5)) 4 (nI (rf_kn w s)))) 23 (upd (upd (upd (upd (upd (upd (h 23) 0 (nI s)) 1 (rf_of w s 0)) 2 (rf_pl w s)) 3 (w 5)) 4 (nI (rf_kn w s))) 5 (rf_pc (rf_use w s))) = (am_row h 23 (upd (upd (upd (upd (upd (upd (h 23) 0 (nI s)) 1 (rf_of w s 0)) 2 (rf_pl w s)) 3 (w 5)) 4 (nI (rf_kn w s))) 5 (rf_pc (rf_use w s)))) from am_row_s0) ?_
          refine am_aload_n (pc := 190) C dX10_ruled_190 rfl ?_
          refine am_getR (pc := 191) (j := 17) C dX10_ruled_191 f10_15 bn_40 sh_40 (rf_40_1 hR) ?_
          refine am_getR (pc := 194) (j := 23) C dX10_ruled_194 f10_189 bn_17 sh_17 (rf_17_7 hR) ?_
          refine am_bipush (pc := 197) (v := nI 6) C dX10_ruled_197 (by decide) ?_
          refine am_iload_n (pc := 199) C dX10_ruled_199 rfl ?_
          refine am_iastore (pc := 200) C dX10_ruled_200 bn_23 sh_23 (vp_in_nI (by omega) (by decide)) ?_
          refine am_hp (show am_up (am_row h 23 (upd (upd (upd (upd (upd (upd (h 23) 0 (nI s)) 1 (rf_of w s 0)) 2 (rf_pl w s)) 3 (w 5)) 4 (nI (rf_kn w s))) 5 (rf_pc (rf_use w s)))) 23 (nI 6).toNatClampNeg (nI (rf_cnt (cl_foe w s) (rf_S w))) = am_row (am_row h 23 (upd (upd (upd (upd (upd (upd (h 23) 0 (nI s)) 1 (rf_of w s 0)) 2 (rf_pl w s)) 3 (w 5)) 4 (nI (rf_kn w s))) 5 (rf_pc (rf_use w s)))) 23 (upd (upd (upd (upd (upd (upd (upd (h 23) 0 (nI s)) 1 (rf_of w s 0)) 2 (rf_pl w s)) 3 (w 5)) 4 (nI (rf_kn w s))) 5 (rf_pc (rf_use w s))) 6 (nI (rf_cnt (cl_foe w s) (rf_S w)))) from by rw [nI_clamp (by omega)]; exact am_up_rw _ _ _ _) ?_
          refine am_hp (show am_row (am_row h 23 (upd (upd (upd (upd (upd (upd (h 23) 0 (nI s)) 1 (rf_of w s 0)) 2 (rf_pl w s)) 3 (w 5)) 4 (nI (rf_kn w s))) 5 (rf_pc (rf_use w s)))) 23 (upd (upd (upd (upd (upd (upd (upd (h 23) 0 (nI s)) 1 (rf_of w s 0)) 2 (rf_pl w s)) 3 (w 5)) 4 (nI (rf_kn w s))) 5 (rf_pc (rf_use w s))) 6 (nI (rf_cnt (cl_foe w s) (rf_S w)))) = (am_row h 23 (upd (upd (upd (upd (upd (upd (upd (h 23) 0 (nI s)) 1 (rf_of w s 0)) 2 (rf_pl w s)) 3 (w 5)) 4 (nI (rf_kn w s))) 5 (rf_pc (rf_use w s))) 6 (nI (rf_cnt (cl_foe w s) (rf_S w))))) from am_row_s0) ?_
          refine am_aload_n (pc := 201) C dX10_ruled_201 rfl ?_
          refine am_getR (pc := 202) (j := 17) C dX10_ruled_202 f10_15 bn_40 sh_40 (rf_40_1 hR) ?_
          refine am_getR (pc := 205) (j := 23) C dX10_ruled_205 f10_189 bn_17 sh_17 (rf_17_7 hR) ?_
          refine am_bipush (pc := 208) (v := nI 7) C dX10_ruled_208 (by decide) ?_
          refine am_iload (pc := 210) C dX10_ruled_210 rfl ?_
          refine am_if_neN (pc := 212) (tgt := 219) C dX10_ruled_212 (by decide) (by omega) (fun q212 => ?_) (fun q212 => ?_)
          · skip
            refine am_iconstN (pc := 219) (k := 0) C dX10_ruled_219 ?_
            refine am_top (show (nI 0) = (rf_fact w 7 (nI 0) s) from (by rw [← cl_alone hV hs, if_neg (by omega)])) ?_
            refine am_iastore (pc := 220) C dX10_ruled_220 bn_23 sh_23 (vp_in_nI (by omega) (by decide)) ?_
            refine am_hp (show am_up (am_row h 23 (upd (upd (upd (upd (upd (upd (upd (h 23) 0 (nI s)) 1 (rf_of w s 0)) 2 (rf_pl w s)) 3 (w 5)) 4 (nI (rf_kn w s))) 5 (rf_pc (rf_use w s))) 6 (nI (rf_cnt (cl_foe w s) (rf_S w))))) 23 (nI 7).toNatClampNeg (rf_fact w 7 (nI 0) s) = am_row (am_row h 23 (upd (upd (upd (upd (upd (upd (upd (h 23) 0 (nI s)) 1 (rf_of w s 0)) 2 (rf_pl w s)) 3 (w 5)) 4 (nI (rf_kn w s))) 5 (rf_pc (rf_use w s))) 6 (nI (rf_cnt (cl_foe w s) (rf_S w))))) 23 (upd (upd (upd (upd (upd (upd (upd (upd (h 23) 0 (nI s)) 1 (rf_of w s 0)) 2 (rf_pl w s)) 3 (w 5)) 4 (nI (rf_kn w s))) 5 (rf_pc (rf_use w s))) 6 (nI (rf_cnt (cl_foe w s) (rf_S w)))) 7 (rf_fact w 7 (nI 0) s)) from by rw [nI_clamp (by omega)]; exact am_up_rw _ _ _ _) ?_
            refine am_hp (show am_row (am_row h 23 (upd (upd (upd (upd (upd (upd (upd (h 23) 0 (nI s)) 1 (rf_of w s 0)) 2 (rf_pl w s)) 3 (w 5)) 4 (nI (rf_kn w s))) 5 (rf_pc (rf_use w s))) 6 (nI (rf_cnt (cl_foe w s) (rf_S w))))) 23 (upd (upd (upd (upd (upd (upd (upd (upd (h 23) 0 (nI s)) 1 (rf_of w s 0)) 2 (rf_pl w s)) 3 (w 5)) 4 (nI (rf_kn w s))) 5 (rf_pc (rf_use w s))) 6 (nI (rf_cnt (cl_foe w s) (rf_S w)))) 7 (rf_fact w 7 (nI 0) s)) = (am_row h 23 (upd (upd (upd (upd (upd (upd (upd (upd (h 23) 0 (nI s)) 1 (rf_of w s 0)) 2 (rf_pl w s)) 3 (w 5)) 4 (nI (rf_kn w s))) 5 (rf_pc (rf_use w s))) 6 (nI (rf_cnt (cl_foe w s) (rf_S w)))) 7 (rf_fact w 7 (nI 0) s))) from am_row_s0) ?_
            refine am_aload_n (pc := 221) C dX10_ruled_221 rfl ?_
            refine am_getR (pc := 222) (j := 17) C dX10_ruled_222 f10_15 bn_40 sh_40 (rf_40_1 hR) ?_
            refine am_iload_n (pc := 225) C dX10_ruled_225 rfl ?_
            refine am_callVir (Y := mX1_sumOf) (pc := 226) (st := []) (As := [.int (nI kd)]) (x := (nI (min (rf_sayn w kd (rf_nat ((upd (upd (upd (upd (upd (upd (upd (upd (h 23) 0 (nI s)) 1 (rf_of w s 0)) 2 (rf_pl w s)) 3 (w 5)) 4 (nI (rf_kn w s))) 5 (rf_pc (rf_use w s))) 6 (nI (rf_cnt (cl_foe w s) (rf_S w)))) 7 (rf_fact w 7 (nI 0) s)) 0)) (rf_nat (w 731))) 100))) (PP := fun c9 => cl_fr ((am_row h 23 (upd (upd (upd (upd (upd (upd (upd (upd (h 23) 0 (nI s)) 1 (rf_of w s 0)) 2 (rf_pl w s)) 3 (w 5)) 4 (nI (rf_kn w s))) 5 (rf_pc (rf_use w s))) 6 (nI (rf_cnt (cl_foe w s) (rf_S w)))) 7 (rf_fact w 7 (nI 0) s)))) c9 24 1) C dX10_ruled_226 k10_192 v_X1_sumOf rfl rfl bn_17 sh_17 ⟨by decide, rfl⟩ (by decide) (Nat.zero_le _) (Nat.zero_le _) (Nat.le_of_ble_eq_true rfl) (c_X1_sumOf hR kd w (show rf_Lw w from hLw) (show rf_Lk w from hLk) (show cl_La ((am_row h 23 (upd (upd (upd (upd (upd (upd (upd (upd (h 23) 0 (nI s)) 1 (rf_of w s 0)) 2 (rf_pl w s)) 3 (w 5)) 4 (nI (rf_kn w s))) 5 (rf_pc (rf_use w s))) 6 (nI (rf_cnt (cl_foe w s) (rf_S w)))) 7 (rf_fact w 7 (nI 0) s)))) 17 w from (cl_La_eq (fun i a b => am_row_ne _ _ _ (by omega)) hA)) (show 0 < rf_nat (w 4) from h4) (show kd < 3 from hkd) (show ∀ c, c < 8 → (upd (upd (upd (upd (upd (upd (upd (upd (h 23) 0 (nI s)) 1 (rf_of w s 0)) 2 (rf_pl w s)) 3 (w 5)) 4 (nI (rf_kn w s))) 5 (rf_pc (rf_use w s))) 6 (nI (rf_cnt (cl_foe w s) (rf_S w)))) 7 (rf_fact w 7 (nI 0) s)) c = rf_fact w c (nI 0) (rf_nat ((upd (upd (upd (upd (upd (upd (upd (upd (h 23) 0 (nI s)) 1 (rf_of w s 0)) 2 (rf_pl w s)) 3 (w 5)) 4 (nI (rf_kn w s))) 5 (rf_pc (rf_use w s))) 6 (nI (rf_cnt (cl_foe w s) (rf_S w)))) 7 (rf_fact w 7 (nI 0) s)) 0)) from (cl_pts (w := w) (by omega) rfl rfl rfl hIs.2.2.2.2.1.1.symm rfl (cl_foes hV hs) rfl))) (fun g226_0 hg226_0 => ?_)
            have F226 := hg226_0
            refine am_top (show (nI (min (rf_sayn w kd (rf_nat ((upd (upd (upd (upd (upd (upd (upd (upd (h 23) 0 (nI s)) 1 (rf_of w s 0)) 2 (rf_pl w s)) 3 (w 5)) 4 (nI (rf_kn w s))) 5 (rf_pc (rf_use w s))) 6 (nI (rf_cnt (cl_foe w s) (rf_S w)))) 7 (rf_fact w 7 (nI 0) s)) 0)) (rf_nat (w 731))) 100)) = (nI (min (rf_sayn w kd s (rf_nat (w 731))) 100)) from (congrArg (fun z => nI (min (rf_sayn w kd z (rf_nat (w 731))) 100)) (cl_p0 (by omega)))) ?_
            exact am_iretir T dX10_ruled_229 rfl (Nat.le_refl _) (Nat.le_refl _) (by rw [cl_says, if_neg (by omega)]) rfl (fun i h9 => (F226 i (by omega)).trans (am_row_ne _ _ _ (by omega)))
          · skip
            refine am_iconstN (pc := 215) (k := 1) C dX10_ruled_215 ?_
            refine am_goto (pc := 216) (tgt := 220) C dX10_ruled_216 (by decide) ?_
            refine am_top (show (nI 1) = (rf_fact w 7 (nI 0) s) from (by rw [← cl_alone hV hs, if_pos (by omega)])) ?_
            refine am_iastore (pc := 220) C dX10_ruled_220 bn_23 sh_23 (vp_in_nI (by omega) (by decide)) ?_
            refine am_hp (show am_up (am_row h 23 (upd (upd (upd (upd (upd (upd (upd (h 23) 0 (nI s)) 1 (rf_of w s 0)) 2 (rf_pl w s)) 3 (w 5)) 4 (nI (rf_kn w s))) 5 (rf_pc (rf_use w s))) 6 (nI (rf_cnt (cl_foe w s) (rf_S w))))) 23 (nI 7).toNatClampNeg (rf_fact w 7 (nI 0) s) = am_row (am_row h 23 (upd (upd (upd (upd (upd (upd (upd (h 23) 0 (nI s)) 1 (rf_of w s 0)) 2 (rf_pl w s)) 3 (w 5)) 4 (nI (rf_kn w s))) 5 (rf_pc (rf_use w s))) 6 (nI (rf_cnt (cl_foe w s) (rf_S w))))) 23 (upd (upd (upd (upd (upd (upd (upd (upd (h 23) 0 (nI s)) 1 (rf_of w s 0)) 2 (rf_pl w s)) 3 (w 5)) 4 (nI (rf_kn w s))) 5 (rf_pc (rf_use w s))) 6 (nI (rf_cnt (cl_foe w s) (rf_S w)))) 7 (rf_fact w 7 (nI 0) s)) from by rw [nI_clamp (by omega)]; exact am_up_rw _ _ _ _) ?_
            refine am_hp (show am_row (am_row h 23 (upd (upd (upd (upd (upd (upd (upd (h 23) 0 (nI s)) 1 (rf_of w s 0)) 2 (rf_pl w s)) 3 (w 5)) 4 (nI (rf_kn w s))) 5 (rf_pc (rf_use w s))) 6 (nI (rf_cnt (cl_foe w s) (rf_S w))))) 23 (upd (upd (upd (upd (upd (upd (upd (upd (h 23) 0 (nI s)) 1 (rf_of w s 0)) 2 (rf_pl w s)) 3 (w 5)) 4 (nI (rf_kn w s))) 5 (rf_pc (rf_use w s))) 6 (nI (rf_cnt (cl_foe w s) (rf_S w)))) 7 (rf_fact w 7 (nI 0) s)) = (am_row h 23 (upd (upd (upd (upd (upd (upd (upd (upd (h 23) 0 (nI s)) 1 (rf_of w s 0)) 2 (rf_pl w s)) 3 (w 5)) 4 (nI (rf_kn w s))) 5 (rf_pc (rf_use w s))) 6 (nI (rf_cnt (cl_foe w s) (rf_S w)))) 7 (rf_fact w 7 (nI 0) s))) from am_row_s0) ?_
            refine am_aload_n (pc := 221) C dX10_ruled_221 rfl ?_
            refine am_getR (pc := 222) (j := 17) C dX10_ruled_222 f10_15 bn_40 sh_40 (rf_40_1 hR) ?_
            refine am_iload_n (pc := 225) C dX10_ruled_225 rfl ?_
            refine am_callVir (Y := mX1_sumOf) (pc := 226) (st := []) (As := [.int (nI kd)]) (x := (nI (min (rf_sayn w kd (rf_nat ((upd (upd (upd (upd (upd (upd (upd (upd (h 23) 0 (nI s)) 1 (rf_of w s 0)) 2 (rf_pl w s)) 3 (w 5)) 4 (nI (rf_kn w s))) 5 (rf_pc (rf_use w s))) 6 (nI (rf_cnt (cl_foe w s) (rf_S w)))) 7 (rf_fact w 7 (nI 0) s)) 0)) (rf_nat (w 731))) 100))) (PP := fun c9 => cl_fr ((am_row h 23 (upd (upd (upd (upd (upd (upd (upd (upd (h 23) 0 (nI s)) 1 (rf_of w s 0)) 2 (rf_pl w s)) 3 (w 5)) 4 (nI (rf_kn w s))) 5 (rf_pc (rf_use w s))) 6 (nI (rf_cnt (cl_foe w s) (rf_S w)))) 7 (rf_fact w 7 (nI 0) s)))) c9 24 1) C dX10_ruled_226 k10_192 v_X1_sumOf rfl rfl bn_17 sh_17 ⟨by decide, rfl⟩ (by decide) (Nat.zero_le _) (Nat.zero_le _) (Nat.le_of_ble_eq_true rfl) (c_X1_sumOf hR kd w (show rf_Lw w from hLw) (show rf_Lk w from hLk) (show cl_La ((am_row h 23 (upd (upd (upd (upd (upd (upd (upd (upd (h 23) 0 (nI s)) 1 (rf_of w s 0)) 2 (rf_pl w s)) 3 (w 5)) 4 (nI (rf_kn w s))) 5 (rf_pc (rf_use w s))) 6 (nI (rf_cnt (cl_foe w s) (rf_S w)))) 7 (rf_fact w 7 (nI 0) s)))) 17 w from (cl_La_eq (fun i a b => am_row_ne _ _ _ (by omega)) hA)) (show 0 < rf_nat (w 4) from h4) (show kd < 3 from hkd) (show ∀ c, c < 8 → (upd (upd (upd (upd (upd (upd (upd (upd (h 23) 0 (nI s)) 1 (rf_of w s 0)) 2 (rf_pl w s)) 3 (w 5)) 4 (nI (rf_kn w s))) 5 (rf_pc (rf_use w s))) 6 (nI (rf_cnt (cl_foe w s) (rf_S w)))) 7 (rf_fact w 7 (nI 0) s)) c = rf_fact w c (nI 0) (rf_nat ((upd (upd (upd (upd (upd (upd (upd (upd (h 23) 0 (nI s)) 1 (rf_of w s 0)) 2 (rf_pl w s)) 3 (w 5)) 4 (nI (rf_kn w s))) 5 (rf_pc (rf_use w s))) 6 (nI (rf_cnt (cl_foe w s) (rf_S w)))) 7 (rf_fact w 7 (nI 0) s)) 0)) from (cl_pts (w := w) (by omega) rfl rfl rfl hIs.2.2.2.2.1.1.symm rfl (cl_foes hV hs) rfl))) (fun g226_1 hg226_1 => ?_)
            have F226 := hg226_1
            refine am_top (show (nI (min (rf_sayn w kd (rf_nat ((upd (upd (upd (upd (upd (upd (upd (upd (h 23) 0 (nI s)) 1 (rf_of w s 0)) 2 (rf_pl w s)) 3 (w 5)) 4 (nI (rf_kn w s))) 5 (rf_pc (rf_use w s))) 6 (nI (rf_cnt (cl_foe w s) (rf_S w)))) 7 (rf_fact w 7 (nI 0) s)) 0)) (rf_nat (w 731))) 100)) = (nI (min (rf_sayn w kd s (rf_nat (w 731))) 100)) from (congrArg (fun z => nI (min (rf_sayn w kd z (rf_nat (w 731))) 100)) (cl_p0 (by omega)))) ?_
            exact am_iretir T dX10_ruled_229 rfl (Nat.le_refl _) (Nat.le_refl _) (by rw [cl_says, if_neg (by omega)]) rfl (fun i h9 => (F226 i (by omega)).trans (am_row_ne _ _ _ (by omega)))
        · skip
          exact absurd q37 (by omega)
      | succ j28 ih28 =>
        intro i28 hi28 
        have hl28 : i28 < rf_S w := by omega
        have hcf2 := hcf i28
        have hcg2 := hcg i28
        refine am_iload (pc := 28) C dX10_ruled_28 rfl ?_
        refine am_aload_n (pc := 30) C dX10_ruled_30 rfl ?_
        refine am_getR (pc := 31) (j := 4) C dX10_ruled_31 f10_9 bn_40 sh_40 (rf_40_0 hR) ?_
        refine am_getI (pc := 34) C dX10_ruled_34 f10_138 bn_4 sh_4 ?_
        refine am_top (show ((h 4) 2) = (nI (rf_S w)) from (hLo.1.2.2.1.trans hV.1.2.1.1)) ?_
        refine am_icmp_geN (pc := 37) (tgt := 81) C dX10_ruled_37 (by decide) (by omega) (by omega) (fun q37 => ?_) (fun q37 => ?_)
        · skip
          exact absurd q37 (by omega)
        · skip
          refine am_iload (pc := 40) C dX10_ruled_40 rfl ?_
          refine am_iload_n (pc := 42) C dX10_ruled_42 rfl ?_
          refine am_icmp_eqN (pc := 43) (tgt := 75) C dX10_ruled_43 (by decide) (by omega) (by omega) (fun q43 => ?_) (fun q43 => ?_)
          · skip
            refine am_iincN (pc := 75) (ls' := [(0, .ref 40), (1, .int (nI s)), (2, .int (nI kd)), (3, .int (nI (rf_cnt (cl_foe w s) i28))), (4, .int (nI (rf_cnt (cl_frd w s) i28))), (5, .int (nI (i28 + 1)))]) C dX10_ruled_75 rfl (am_up1 _) (by decide) rfl ?_
            refine am_goto (pc := 78) (tgt := 28) C dX10_ruled_78 (by decide) ?_
            refine am_lsv (ls' := [(0, .ref 40), (1, .int (nI s)), (2, .int (nI kd)), (3, .int (nI (rf_cnt (cl_foe w s) (i28 + 1)))), (4, .int (nI (rf_cnt (cl_frd w s) i28))), (5, .int (nI (i28 + 1)))]) (congrArg (fun z9 : Int32 => ([(0, .ref 40), (1, .int (nI s)), (2, .int (nI kd)), (3, Value.int z9), (4, .int (nI (rf_cnt (cl_frd w s) i28))), (5, .int (nI (i28 + 1)))] : List (Nat × Value))) (show (nI (rf_cnt (cl_foe w s) i28)) = (nI (rf_cnt (cl_foe w s) (i28 + 1))) from rf_cnt_f (by rw [cl_foe, decide_eq_true q43]; rfl))) ?_
            refine am_lsv (ls' := [(0, .ref 40), (1, .int (nI s)), (2, .int (nI kd)), (3, .int (nI (rf_cnt (cl_foe w s) (i28 + 1)))), (4, .int (nI (rf_cnt (cl_frd w s) (i28 + 1)))), (5, .int (nI (i28 + 1)))]) (congrArg (fun z9 : Int32 => ([(0, .ref 40), (1, .int (nI s)), (2, .int (nI kd)), (3, .int (nI (rf_cnt (cl_foe w s) (i28 + 1)))), (4, Value.int z9), (5, .int (nI (i28 + 1)))] : List (Nat × Value))) (show (nI (rf_cnt (cl_frd w s) i28)) = (nI (rf_cnt (cl_frd w s) (i28 + 1))) from rf_cnt_f (by rw [cl_frd, decide_eq_true q43]; rfl))) ?_
            exact ih28 (i28 + 1) (by omega) 
          · skip
            refine am_aload_n (pc := 46) C dX10_ruled_46 rfl ?_
            refine am_iload_n (pc := 47) C dX10_ruled_47 rfl ?_
            refine am_iload (pc := 48) C dX10_ruled_48 rfl ?_
            refine am_callVi (Y := mX10_together) (pc := 50) (st := []) (As := [.int (nI s), .int (nI i28)]) (x := (am_b (decide (rf_pl w s = rf_pl w i28)))) (h2 := h) C dX10_ruled_50 k10_144 v_X10_together rfl rfl bn_40 sh_40 ⟨by decide, rfl⟩ (by decide) (Nat.zero_le _) (Nat.zero_le _) (Nat.le_of_ble_eq_true rfl) (c_X10_together_p hR s i28 w hV hLo hSc hs (show i28 < rf_S w from by omega)) ?_
            refine am_if_eqB (pc := 53) (tgt := 75) C dX10_ruled_53 (by decide) (fun q53 => ?_) (fun q53 => ?_)
            · skip
              refine am_iincN (pc := 75) (ls' := [(0, .ref 40), (1, .int (nI s)), (2, .int (nI kd)), (3, .int (nI (rf_cnt (cl_foe w s) i28))), (4, .int (nI (rf_cnt (cl_frd w s) i28))), (5, .int (nI (i28 + 1)))]) C dX10_ruled_75 rfl (am_up1 _) (by decide) rfl ?_
              refine am_goto (pc := 78) (tgt := 28) C dX10_ruled_78 (by decide) ?_
              refine am_lsv (ls' := [(0, .ref 40), (1, .int (nI s)), (2, .int (nI kd)), (3, .int (nI (rf_cnt (cl_foe w s) (i28 + 1)))), (4, .int (nI (rf_cnt (cl_frd w s) i28))), (5, .int (nI (i28 + 1)))]) (congrArg (fun z9 : Int32 => ([(0, .ref 40), (1, .int (nI s)), (2, .int (nI kd)), (3, Value.int z9), (4, .int (nI (rf_cnt (cl_frd w s) i28))), (5, .int (nI (i28 + 1)))] : List (Nat × Value))) (show (nI (rf_cnt (cl_foe w s) i28)) = (nI (rf_cnt (cl_foe w s) (i28 + 1))) from rf_cnt_f (by rw [cl_foe, q53, Bool.false_and, Bool.and_false]))) ?_
              refine am_lsv (ls' := [(0, .ref 40), (1, .int (nI s)), (2, .int (nI kd)), (3, .int (nI (rf_cnt (cl_foe w s) (i28 + 1)))), (4, .int (nI (rf_cnt (cl_frd w s) (i28 + 1)))), (5, .int (nI (i28 + 1)))]) (congrArg (fun z9 : Int32 => ([(0, .ref 40), (1, .int (nI s)), (2, .int (nI kd)), (3, .int (nI (rf_cnt (cl_foe w s) (i28 + 1)))), (4, Value.int z9), (5, .int (nI (i28 + 1)))] : List (Nat × Value))) (show (nI (rf_cnt (cl_frd w s) i28)) = (nI (rf_cnt (cl_frd w s) (i28 + 1))) from rf_cnt_f (by rw [cl_frd, q53, Bool.false_and, Bool.and_false]))) ?_
              exact ih28 (i28 + 1) (by omega) 
            · skip
              refine am_aload_n (pc := 56) C dX10_ruled_56 rfl ?_
              refine am_iload_n (pc := 57) C dX10_ruled_57 rfl ?_
              refine am_iload (pc := 58) C dX10_ruled_58 rfl ?_
              refine am_callVi (Y := mX10_ofOneSide) (pc := 60) (st := []) (As := [.int (nI s), .int (nI i28)]) (x := (am_b (decide (rf_of w s 0 = rf_of w i28 0)))) (h2 := h) C dX10_ruled_60 k10_141 v_X10_ofOneSide rfl rfl bn_40 sh_40 ⟨by decide, rfl⟩ (by decide) (Nat.zero_le _) (Nat.zero_le _) (Nat.le_of_ble_eq_true rfl) (c_X10_ofOneSide_p hR s i28 w hV hLo hSc hs (show i28 < rf_S w from by omega)) ?_
              refine am_if_eqB (pc := 63) (tgt := 72) C dX10_ruled_63 (by decide) (fun q63 => ?_) (fun q63 => ?_)
              · skip
                refine am_iincN (pc := 72) (ls' := [(0, .ref 40), (1, .int (nI s)), (2, .int (nI kd)), (3, .int (nI (rf_cnt (cl_foe w s) i28 + 1))), (4, .int (nI (rf_cnt (cl_frd w s) i28))), (5, .int (nI i28))]) C dX10_ruled_72 rfl (am_up1 _) (by decide) rfl ?_
                refine am_iincN (pc := 75) (ls' := [(0, .ref 40), (1, .int (nI s)), (2, .int (nI kd)), (3, .int (nI (rf_cnt (cl_foe w s) i28 + 1))), (4, .int (nI (rf_cnt (cl_frd w s) i28))), (5, .int (nI (i28 + 1)))]) C dX10_ruled_75 rfl (am_up1 _) (by decide) rfl ?_
                refine am_goto (pc := 78) (tgt := 28) C dX10_ruled_78 (by decide) ?_
                refine am_lsv (ls' := [(0, .ref 40), (1, .int (nI s)), (2, .int (nI kd)), (3, .int (nI (rf_cnt (cl_foe w s) (i28 + 1)))), (4, .int (nI (rf_cnt (cl_frd w s) i28))), (5, .int (nI (i28 + 1)))]) (congrArg (fun z9 : Int32 => ([(0, .ref 40), (1, .int (nI s)), (2, .int (nI kd)), (3, Value.int z9), (4, .int (nI (rf_cnt (cl_frd w s) i28))), (5, .int (nI (i28 + 1)))] : List (Nat × Value))) (show (nI (rf_cnt (cl_foe w s) i28 + 1)) = (nI (rf_cnt (cl_foe w s) (i28 + 1))) from rf_cnt_t (by rw [cl_foe, decide_eq_false q43, q53, q63]; rfl))) ?_
                refine am_lsv (ls' := [(0, .ref 40), (1, .int (nI s)), (2, .int (nI kd)), (3, .int (nI (rf_cnt (cl_foe w s) (i28 + 1)))), (4, .int (nI (rf_cnt (cl_frd w s) (i28 + 1)))), (5, .int (nI (i28 + 1)))]) (congrArg (fun z9 : Int32 => ([(0, .ref 40), (1, .int (nI s)), (2, .int (nI kd)), (3, .int (nI (rf_cnt (cl_foe w s) (i28 + 1)))), (4, Value.int z9), (5, .int (nI (i28 + 1)))] : List (Nat × Value))) (show (nI (rf_cnt (cl_frd w s) i28)) = (nI (rf_cnt (cl_frd w s) (i28 + 1))) from rf_cnt_f (by rw [cl_frd, q63, Bool.and_false, Bool.and_false]))) ?_
                exact ih28 (i28 + 1) (by omega) 
              · skip
                refine am_iincN (pc := 66) (ls' := [(0, .ref 40), (1, .int (nI s)), (2, .int (nI kd)), (3, .int (nI (rf_cnt (cl_foe w s) i28))), (4, .int (nI (rf_cnt (cl_frd w s) i28 + 1))), (5, .int (nI i28))]) C dX10_ruled_66 rfl (am_up1 _) (by decide) rfl ?_
                refine am_goto (pc := 69) (tgt := 75) C dX10_ruled_69 (by decide) ?_
                refine am_iincN (pc := 75) (ls' := [(0, .ref 40), (1, .int (nI s)), (2, .int (nI kd)), (3, .int (nI (rf_cnt (cl_foe w s) i28))), (4, .int (nI (rf_cnt (cl_frd w s) i28 + 1))), (5, .int (nI (i28 + 1)))]) C dX10_ruled_75 rfl (am_up1 _) (by decide) rfl ?_
                refine am_goto (pc := 78) (tgt := 28) C dX10_ruled_78 (by decide) ?_
                refine am_lsv (ls' := [(0, .ref 40), (1, .int (nI s)), (2, .int (nI kd)), (3, .int (nI (rf_cnt (cl_foe w s) (i28 + 1)))), (4, .int (nI (rf_cnt (cl_frd w s) i28 + 1))), (5, .int (nI (i28 + 1)))]) (congrArg (fun z9 : Int32 => ([(0, .ref 40), (1, .int (nI s)), (2, .int (nI kd)), (3, Value.int z9), (4, .int (nI (rf_cnt (cl_frd w s) i28 + 1))), (5, .int (nI (i28 + 1)))] : List (Nat × Value))) (show (nI (rf_cnt (cl_foe w s) i28)) = (nI (rf_cnt (cl_foe w s) (i28 + 1))) from rf_cnt_f (by rw [cl_foe, q63, Bool.not_true, Bool.and_false, Bool.and_false]))) ?_
                refine am_lsv (ls' := [(0, .ref 40), (1, .int (nI s)), (2, .int (nI kd)), (3, .int (nI (rf_cnt (cl_foe w s) (i28 + 1)))), (4, .int (nI (rf_cnt (cl_frd w s) (i28 + 1)))), (5, .int (nI (i28 + 1)))]) (congrArg (fun z9 : Int32 => ([(0, .ref 40), (1, .int (nI s)), (2, .int (nI kd)), (3, .int (nI (rf_cnt (cl_foe w s) (i28 + 1)))), (4, Value.int z9), (5, .int (nI (i28 + 1)))] : List (Nat × Value))) (show (nI (rf_cnt (cl_frd w s) i28 + 1)) = (nI (rf_cnt (cl_frd w s) (i28 + 1))) from rf_cnt_t (by rw [cl_frd, decide_eq_false q43, q53, q63]; rfl))) ?_
                exact ih28 (i28 + 1) (by omega) 
    refine am_lsv (ls' := [(0, .ref 40), (1, .int (nI s)), (2, .int (nI kd)), (3, .int (nI (rf_cnt (cl_foe w s) 0))), (4, .int (nI 0)), (5, .int (nI 0))]) (congrArg (fun z9 : Int32 => ([(0, .ref 40), (1, .int (nI s)), (2, .int (nI kd)), (3, Value.int z9), (4, .int (nI 0)), (5, .int (nI 0))] : List (Nat × Value))) (show (nI 0) = (nI (rf_cnt (cl_foe w s) 0)) from rfl)) ?_
    refine am_lsv (ls' := [(0, .ref 40), (1, .int (nI s)), (2, .int (nI kd)), (3, .int (nI (rf_cnt (cl_foe w s) 0))), (4, .int (nI (rf_cnt (cl_frd w s) 0))), (5, .int (nI 0))]) (congrArg (fun z9 : Int32 => ([(0, .ref 40), (1, .int (nI s)), (2, .int (nI kd)), (3, .int (nI (rf_cnt (cl_foe w s) 0))), (4, Value.int z9), (5, .int (nI 0))] : List (Nat × Value))) (show (nI 0) = (nI (rf_cnt (cl_frd w s) 0)) from rfl)) ?_
    exact L28 (rf_S w) 0 (by omega) 
  · skip
    have h40 : rf_nat (w 4) = 0 := cl_A0 hA hLw q8
    refine am_aload_n (pc := 11) C dX10_ruled_11 rfl ?_
    refine am_getR (pc := 12) (j := 17) C dX10_ruled_12 f10_15 bn_40 sh_40 (rf_40_1 hR) ?_
    refine am_iload_n (pc := 15) C dX10_ruled_15 rfl ?_
    refine am_callVi (Y := mX1_withoutText) (pc := 16) (st := []) (As := [.int (nI kd)]) (x := (nI (if kd = 0 then 50 else if kd = 1 then 20 else 1))) (h2 := h) C dX10_ruled_16 k10_186 v_X1_withoutText rfl rfl bn_17 sh_17 ⟨by decide, rfl⟩ (by decide) (Nat.zero_le _) (Nat.zero_le _) (Nat.le_of_ble_eq_true rfl) (c_X1_withoutText hR kd hkd) ?_
    exact am_iretir T dX10_ruled_19 rfl (Nat.le_refl _) (Nat.le_refl _) (by rw [cl_says, if_pos h40]) rfl (fun _ _ => rfl)

set_option maxHeartbeats 400000 in
set_option maxRecDepth 100000 in
theorem c_X5_draw_r_p {ad : Nat → Nat} {r : am_R} (hR : am_rs r) {h : am_H}  (w : rf_W) (hV : rf_I w) (hSc : cl_Sc (h) 41 w)  : am_CM mX5_draw 0 0 0 [.ref 41] (am_VV ad) r h (am_pr (some (.int (nI (rf_dr w)))) r (fun c9 => cl_Sc c9 41 (rf_draw w) ∧ cl_fr (h) c9 41 1)) := by
  refine am_CM.of (by decide +kernel) (Nat.le_of_ble_eq_true rfl) (fun X C T => ?_)
  show am_G X (am_VV ad) (0, 0) 0 [(0, .ref 41)] [] r h
  have hM9 : rf_M w < 17 := hV.1.1.2
  have hS9 : rf_S w < 11 := hV.1.2.1.2
  have hO9 : rf_O w < 11 := hV.1.2.2.2
  refine am_aload_n (pc := 0) C dX5_draw_0 rfl ?_
  refine am_ldci (pc := 1) (v := 1103515245) C dX5_draw_1 (am_mem 1333 (by decide +kernel) rfl) ?_
  refine am_aload_n (pc := 3) C dX5_draw_3 rfl ?_
  refine am_getI (pc := 4) C dX5_draw_4 f5_9 bn_41 sh_41 ?_
  refine am_top (show ((h 41) 1) = (w 10) from hSc.1.2.1) ?_
  refine am_imul (pc := 7) C dX5_draw_7 ?_
  refine am_sipush (pc := 8) (v := nI 12345) C dX5_draw_8 (by decide) ?_
  refine am_iadd (pc := 11) C dX5_draw_11 ?_
  refine am_putI (pc := 12) C dX5_draw_12 f5_9 bn_41 sh_41 rfl rfl ?_
  refine am_hp (show am_up h 41 1 ((1103515245 * (w 10)) + (nI 12345)) = am_row h 41 (upd (h 41) 1 ((1103515245 * (w 10)) + (nI 12345))) from am_up_rw _ _ _ _) ?_
  refine am_aload_n (pc := 15) C dX5_draw_15 rfl ?_
  refine am_getI (pc := 16) C dX5_draw_16 f5_9 bn_41 sh_41 ?_
  refine am_top (show ((upd (h 41) 1 ((1103515245 * (w 10)) + (nI 12345))) 1) = (rf_seed1 w) from rf_upd_eq) ?_
  refine am_bipush (pc := 19) (v := nI 16) C dX5_draw_19 (by decide) ?_
  refine am_ishr (pc := 21) C dX5_draw_21 ?_
  refine am_sipush (pc := 22) (v := nI 32767) C dX5_draw_22 (by decide) ?_
  refine am_iand (pc := 25) C dX5_draw_25 ?_
  refine am_top (show (((rf_seed1 w) >>> ((nI 16) &&& 31)) &&& (nI 32767)) = (nI (rf_dr w)) from (rf_dr_n w).1) ?_
  exact am_iretir T dX5_draw_26 rfl (Nat.le_refl _) (Nat.le_refl _) rfl rfl ⟨cl_Sc_num hV hSc (Or.inr (Or.inl ⟨rfl, rfl⟩)) (by show upd (h 41) 1 _ = upd (h 41) 1 (rf_seed1 w); rfl) (fun i h7 g7 => by rw [am_row_ne _ _ _ (by omega)]), fun i h9 => am_row_ne _ _ _ (by omega)⟩

set_option maxHeartbeats 400000 in
set_option maxRecDepth 100000 in
theorem c_X10_fire_p {ad : Nat → Nat} {r : am_R} (hR : am_rs r) {h : am_H} (s : Nat) (w : rf_W) (hV : rf_I w) (hLo : cl_Lo (h) 4 w) (hSc : cl_Sc (h) 41 w) (hs : s < rf_S w) (hB : rf_n (w 7) 2147483647) (hLw : rf_Lw w) (hLk : rf_Lk w) (hA : cl_La (h) 17 w)  : am_CM mX10_fire 5 0 0 [.ref 40, .int (nI s)] (am_VV ad) r h (am_pr none r (fun c9 => cl_Sc c9 41 (rf_shoot w s) ∧ cl_fq (h) c9)) := by
  refine am_CM.of (by decide +kernel) (Nat.le_of_ble_eq_true rfl) (fun X C T => ?_)
  show am_G X (am_VV ad) (0, 0) 0 [(0, .ref 40), (1, .int (nI s))] [] r h
  have hM9 : rf_M w < 17 := hV.1.1.2
  have hS9 : rf_S w < 11 := hV.1.2.1.2
  have hO9 : rf_O w < 11 := hV.1.2.2.2
  have htg := rf_tgt_le w (rf_sideIn w (nI 1 - rf_of w s 0) (rf_pl w s)) (rf_S w)
  have htb : rf_target w s < 11 := by rw [rf_target]; split <;> omega
  have V1 : rf_I (rf_draw w) := rf_I_draw hV
  have V2 : rf_I (rf_draw (rf_draw w)) := rf_I_draw V1
  have E1 : rf_Es w (rf_draw w) := rf_Es_draw
  have E2 : rf_Es w (rf_draw (rf_draw w)) := rf_Es_draw.tr rf_Es_draw
  have P1 : rf_Eq w (rf_draw w) := rf_Eq_draw
  have P2 : rf_Eq w (rf_draw (rf_draw w)) := rf_Eq_draw.tr rf_Eq_draw
  have hc1 : cl_says (rf_draw w) 0 s ≤ 100 := cl_says_le
  have hc2 : cl_says (rf_draw (rf_draw w)) 1 s ≤ 100 := cl_says_le
  have hd1 := (rf_dr_n w).2
  have hd2 := (rf_dr_n (rf_draw w)).2
  have hs1 : s < rf_S (rf_draw w) := by rw [E1.S]; exact hs
  have hs2 : s < rf_S (rf_draw (rf_draw w)) := by rw [E2.S]; exact hs
  have hq1 : cl_says (rf_draw w) 0 s = rf_says (rf_draw w) 0 s := cl_says_eq (by omega)
  have hq2 : cl_says (rf_draw (rf_draw w)) 1 s = rf_says (rf_draw (rf_draw w)) 1 s := cl_says_eq (by omega)
  refine am_aload_n (pc := 0) C dX10_fire_0 rfl ?_
  refine am_iload_n (pc := 1) C dX10_fire_1 rfl ?_
  refine am_callVi (Y := mX10_targetOf) (pc := 2) (st := []) (As := [.int (nI s)]) (x := (am_oi (rf_target w s))) (h2 := h) C dX10_fire_2 k10_172 v_X10_targetOf rfl rfl bn_40 sh_40 ⟨by decide, rfl⟩ (by decide) (Nat.zero_le _) (Nat.zero_le _) (Nat.le_of_ble_eq_true rfl) (c_X10_targetOf_p hR s w hV hLo hSc hs) ?_
  refine am_istore_n (pc := 5) (ls' := [(0, .ref 40), (1, .int (nI s)), (2, .int (am_oi (rf_target w s)))]) C dX10_fire_5 (by decide) rfl ?_
  refine am_iload_n (pc := 6) C dX10_fire_6 rfl ?_
  refine am_iconst (pc := 7) (v := -1) C dX10_fire_7 rfl ?_
  refine am_icmp_neO (pc := 8) (tgt := 12) C dX10_fire_8 (by decide) (by omega) (fun q8 => ?_) (fun q8 => ?_)
  · skip
    refine am_lsv (ls' := [(0, .ref 40), (1, .int (nI s)), (2, .int (nI (rf_target w s - 1)))]) (congrArg (fun z9 : Int32 => ([(0, .ref 40), (1, .int (nI s)), (2, Value.int z9)] : List (Nat × Value))) (show (am_oi (rf_target w s)) = (nI (rf_target w s - 1)) from (am_oi_p q8))) ?_
    refine am_aload_n (pc := 12) C dX10_fire_12 rfl ?_
    refine am_getR (pc := 13) (j := 41) C dX10_fire_13 f10_22 bn_40 sh_40 (rf_40_2 hR) ?_
    refine am_callVir (Y := mX5_draw) (pc := 16) (st := []) (As := []) (x := (nI (rf_dr w))) (PP := fun c9 => cl_Sc c9 41 (rf_draw w) ∧ cl_fr (h) c9 41 1) C dX10_fire_16 k10_175 v_X5_draw rfl rfl bn_41 sh_41 ⟨by decide, rfl⟩ (by decide) (Nat.zero_le _) (Nat.zero_le _) (Nat.le_of_ble_eq_true rfl) (c_X5_draw_r_p hR w hV hSc) (fun g16_0 hg16_0 => ?_)
    obtain ⟨S16, F16⟩ := hg16_0
    have Q16 : cl_fq h g16_0 := fun i h9 => F16 i (by omega)
    have L16 : cl_Lo g16_0 4 (rf_draw w) := cl_Lo_Es hV E1 (cl_Lo_eq (fun i a b => Q16 i (by omega)) hLo)
    have A16 : cl_La g16_0 17 (rf_draw w) := cl_La_Es E1 (cl_La_eq (fun i a b => Q16 i (by omega)) hA)
    refine am_bipush (pc := 19) (v := nI 100) C dX10_fire_19 (by decide) ?_
    refine am_iremN (pc := 21) C dX10_fire_21 (by omega) (by omega) (by omega) ?_
    refine am_aload_n (pc := 22) C dX10_fire_22 rfl ?_
    refine am_iload_n (pc := 23) C dX10_fire_23 rfl ?_
    refine am_iconstN (pc := 24) (k := 0) C dX10_fire_24 ?_
    refine am_callVir (Y := mX10_ruled) (pc := 25) (st := [.int (nI ((rf_dr w) % 100))]) (As := [.int (nI s), .int (nI 0)]) (x := (nI (cl_says (rf_draw w) 0 s))) (PP := fun c9 => cl_fr (g16_0) c9 23 2) C dX10_fire_25 k10_163 v_X10_ruled rfl rfl bn_40 sh_40 ⟨by decide, rfl⟩ (by decide) (Nat.zero_le _) (Nat.zero_le _) (Nat.le_of_ble_eq_true rfl) (c_X10_ruled_p hR s 0 (rf_draw w) V1 L16 S16 (show s < rf_S (rf_draw w) from hs1) (show 0 < 3 from (by omega)) (show rf_Lw (rf_draw w) from (P1.L hLw)) (show rf_Lk (rf_draw w) from (rf_Lk_Eq P1 hLk)) (show cl_La (g16_0) 17 (rf_draw w) from A16)) (fun g25_1 hg25_1 => ?_)
    have F25 := hg25_1
    have Q25 : cl_fq h g25_1 := fun i h9 => (F25 i (by omega)).trans (Q16 i h9)
    have S25 : cl_Sc g25_1 41 (rf_draw w) := cl_Sc_eq (fun i a b => F25 i (by omega)) S16
    have L25 : cl_Lo g25_1 4 (rf_draw w) := cl_Lo_Es hV E1 (cl_Lo_eq (fun i a b => Q25 i (by omega)) hLo)
    have A25 : cl_La g25_1 17 (rf_draw w) := cl_La_Es E1 (cl_La_eq (fun i a b => Q25 i (by omega)) hA)
    refine am_icmp_geN (pc := 28) (tgt := 64) C dX10_fire_28 (by decide) (by omega) (by omega) (fun q28 => ?_) (fun q28 => ?_)
    · skip
      exact am_vretvr T dX10_fire_64 rfl (Nat.le_refl _) (Nat.le_refl _) rfl ⟨by rw [rf_shoot, if_neg (by omega), if_neg (by omega)]; exact S25, Q25⟩
    · skip
      refine am_aload_n (pc := 31) C dX10_fire_31 rfl ?_
      refine am_getR (pc := 32) (j := 41) C dX10_fire_32 f10_22 bn_40 sh_40 (rf_40_2 hR) ?_
      refine am_callVir (Y := mX5_draw) (pc := 35) (st := []) (As := []) (x := (nI (rf_dr (rf_draw w)))) (PP := fun c9 => cl_Sc c9 41 (rf_draw (rf_draw w)) ∧ cl_fr (g25_1) c9 41 1) C dX10_fire_35 k10_175 v_X5_draw rfl rfl bn_41 sh_41 ⟨by decide, rfl⟩ (by decide) (Nat.zero_le _) (Nat.zero_le _) (Nat.le_of_ble_eq_true rfl) (c_X5_draw_r_p hR (rf_draw w) V1 S25) (fun g35_2 hg35_2 => ?_)
      obtain ⟨S35, F35⟩ := hg35_2
      have Q35 : cl_fq h g35_2 := fun i h9 => (F35 i (by omega)).trans (Q25 i h9)
      have L35 : cl_Lo g35_2 4 (rf_draw (rf_draw w)) := cl_Lo_Es hV E2 (cl_Lo_eq (fun i a b => Q35 i (by omega)) hLo)
      have A35 : cl_La g35_2 17 (rf_draw (rf_draw w)) := cl_La_Es E2 (cl_La_eq (fun i a b => Q35 i (by omega)) hA)
      refine am_bipush (pc := 38) (v := nI 100) C dX10_fire_38 (by decide) ?_
      refine am_iremN (pc := 40) C dX10_fire_40 (by omega) (by omega) (by omega) ?_
      refine am_aload_n (pc := 41) C dX10_fire_41 rfl ?_
      refine am_iload_n (pc := 42) C dX10_fire_42 rfl ?_
      refine am_iconstN (pc := 43) (k := 1) C dX10_fire_43 ?_
      refine am_callVir (Y := mX10_ruled) (pc := 44) (st := [.int (nI ((rf_dr (rf_draw w)) % 100))]) (As := [.int (nI s), .int (nI 1)]) (x := (nI (cl_says (rf_draw (rf_draw w)) 1 s))) (PP := fun c9 => cl_fr (g35_2) c9 23 2) C dX10_fire_44 k10_163 v_X10_ruled rfl rfl bn_40 sh_40 ⟨by decide, rfl⟩ (by decide) (Nat.zero_le _) (Nat.zero_le _) (Nat.le_of_ble_eq_true rfl) (c_X10_ruled_p hR s 1 (rf_draw (rf_draw w)) V2 L35 S35 (show s < rf_S (rf_draw (rf_draw w)) from hs2) (show 1 < 3 from (by omega)) (show rf_Lw (rf_draw (rf_draw w)) from (P2.L hLw)) (show rf_Lk (rf_draw (rf_draw w)) from (rf_Lk_Eq P2 hLk)) (show cl_La (g35_2) 17 (rf_draw (rf_draw w)) from A35)) (fun g44_3 hg44_3 => ?_)
      have F44 := hg44_3
      have Q44 : cl_fq h g44_3 := fun i h9 => (F44 i (by omega)).trans (Q35 i h9)
      have S44 : cl_Sc g44_3 41 (rf_draw (rf_draw w)) := cl_Sc_eq (fun i a b => F44 i (by omega)) S35
      have L44 : cl_Lo g44_3 4 (rf_draw (rf_draw w)) := cl_Lo_Es hV E2 (cl_Lo_eq (fun i a b => Q44 i (by omega)) hLo)
      have A44 : cl_La g44_3 17 (rf_draw (rf_draw w)) := cl_La_Es E2 (cl_La_eq (fun i a b => Q44 i (by omega)) hA)
      refine am_icmp_geN (pc := 47) (tgt := 54) C dX10_fire_47 (by decide) (by omega) (by omega) (fun q47 => ?_) (fun q47 => ?_)
      · skip
        refine am_iconstN (pc := 54) (k := 0) C dX10_fire_54 ?_
        refine am_istore_n (pc := 55) (ls' := [(0, .ref 40), (1, .int (nI s)), (2, .int (nI (rf_target w s - 1))), (3, .int (nI 0))]) C dX10_fire_55 (by decide) rfl ?_
        refine am_lsv (ls' := [(0, .ref 40), (1, .int (nI s)), (2, .int (nI (rf_target w s - 1))), (3, .int (am_b (decide (rf_dr (rf_draw w) % 100 < rf_says (rf_draw (rf_draw w)) 1 s))))]) (congrArg (fun z9 : Int32 => ([(0, .ref 40), (1, .int (nI s)), (2, .int (nI (rf_target w s - 1))), (3, Value.int z9)] : List (Nat × Value))) (show (nI 0) = (am_b (decide (rf_dr (rf_draw w) % 100 < rf_says (rf_draw (rf_draw w)) 1 s))) from (by rw [show decide (rf_dr (rf_draw w) % 100 < rf_says (rf_draw (rf_draw w)) 1 s) = false from decide_eq_false (by omega)]; rfl))) ?_
        refine am_aload_n (pc := 56) C dX10_fire_56 rfl ?_
        refine am_iload_n (pc := 57) C dX10_fire_57 rfl ?_
        refine am_iload_n (pc := 58) C dX10_fire_58 rfl ?_
        refine am_iload_n (pc := 59) C dX10_fire_59 rfl ?_
        refine am_callVir (Y := mX10_hit) (pc := 60) (st := []) (As := [.int (nI s), .int (nI (rf_target w s - 1)), .int (am_b (decide (rf_dr (rf_draw w) % 100 < rf_says (rf_draw (rf_draw w)) 1 s)))]) (x := (nI (rf_takes (rf_draw (rf_draw w)) (rf_target w s - 1) (decide (rf_dr (rf_draw w) % 100 < rf_says (rf_draw (rf_draw w)) 1 s)) - 1))) (PP := fun c9 => cl_Sc c9 41 (rf_hit (rf_draw (rf_draw w)) s (rf_target w s - 1) (decide (rf_dr (rf_draw w) % 100 < rf_says (rf_draw (rf_draw w)) 1 s))) ∧ cl_fr (g44_3) c9 41 15) C dX10_fire_60 k10_179 v_X10_hit rfl rfl bn_40 sh_40 ⟨by decide, rfl⟩ (by decide) (Nat.zero_le _) (Nat.zero_le _) (Nat.le_of_ble_eq_true rfl) (c_X10_hit_p hR s (rf_target w s - 1) (decide (rf_dr (rf_draw w) % 100 < rf_says (rf_draw (rf_draw w)) 1 s)) (rf_draw (rf_draw w)) V2 L44 S44 (show s < rf_S (rf_draw (rf_draw w)) from hs2) (show (rf_target w s - 1) < rf_S (rf_draw (rf_draw w)) from (by rw [E2.S]; exact (rf_target_ok q8).1)) (show 0 < rf_kn (rf_draw (rf_draw w)) (rf_target w s - 1) from (by rw [rf_kn_draw, rf_kn_draw]; exact (rf_target_ok q8).2)) (show rf_n ((rf_draw (rf_draw w)) 7) 2147483647 from (by rw [show (rf_draw (rf_draw w)) 7 = w 7 from (rf_upd_ne (by omega)).trans (rf_upd_ne (by omega))]; exact hB))) (fun g60_4 hg60_4 => ?_)
        obtain ⟨S60, F60⟩ := hg60_4
        have Q60 : cl_fq h g60_4 := fun i h9 => (F60 i (by omega)).trans (Q44 i h9)
        refine am_pop (pc := 63) C dX10_fire_63 rfl ?_
        exact am_vretvr T dX10_fire_64 rfl (Nat.le_refl _) (Nat.le_refl _) rfl ⟨by rw [rf_shoot, if_neg (by omega), if_pos (by omega)]; exact S60, Q60⟩
      · skip
        refine am_iconstN (pc := 50) (k := 1) C dX10_fire_50 ?_
        refine am_goto (pc := 51) (tgt := 55) C dX10_fire_51 (by decide) ?_
        refine am_istore_n (pc := 55) (ls' := [(0, .ref 40), (1, .int (nI s)), (2, .int (nI (rf_target w s - 1))), (3, .int (nI 1))]) C dX10_fire_55 (by decide) rfl ?_
        refine am_lsv (ls' := [(0, .ref 40), (1, .int (nI s)), (2, .int (nI (rf_target w s - 1))), (3, .int (am_b (decide (rf_dr (rf_draw w) % 100 < rf_says (rf_draw (rf_draw w)) 1 s))))]) (congrArg (fun z9 : Int32 => ([(0, .ref 40), (1, .int (nI s)), (2, .int (nI (rf_target w s - 1))), (3, Value.int z9)] : List (Nat × Value))) (show (nI 1) = (am_b (decide (rf_dr (rf_draw w) % 100 < rf_says (rf_draw (rf_draw w)) 1 s))) from (by rw [show decide (rf_dr (rf_draw w) % 100 < rf_says (rf_draw (rf_draw w)) 1 s) = true from decide_eq_true (by omega)]; rfl))) ?_
        refine am_aload_n (pc := 56) C dX10_fire_56 rfl ?_
        refine am_iload_n (pc := 57) C dX10_fire_57 rfl ?_
        refine am_iload_n (pc := 58) C dX10_fire_58 rfl ?_
        refine am_iload_n (pc := 59) C dX10_fire_59 rfl ?_
        refine am_callVir (Y := mX10_hit) (pc := 60) (st := []) (As := [.int (nI s), .int (nI (rf_target w s - 1)), .int (am_b (decide (rf_dr (rf_draw w) % 100 < rf_says (rf_draw (rf_draw w)) 1 s)))]) (x := (nI (rf_takes (rf_draw (rf_draw w)) (rf_target w s - 1) (decide (rf_dr (rf_draw w) % 100 < rf_says (rf_draw (rf_draw w)) 1 s)) - 1))) (PP := fun c9 => cl_Sc c9 41 (rf_hit (rf_draw (rf_draw w)) s (rf_target w s - 1) (decide (rf_dr (rf_draw w) % 100 < rf_says (rf_draw (rf_draw w)) 1 s))) ∧ cl_fr (g44_3) c9 41 15) C dX10_fire_60 k10_179 v_X10_hit rfl rfl bn_40 sh_40 ⟨by decide, rfl⟩ (by decide) (Nat.zero_le _) (Nat.zero_le _) (Nat.le_of_ble_eq_true rfl) (c_X10_hit_p hR s (rf_target w s - 1) (decide (rf_dr (rf_draw w) % 100 < rf_says (rf_draw (rf_draw w)) 1 s)) (rf_draw (rf_draw w)) V2 L44 S44 (show s < rf_S (rf_draw (rf_draw w)) from hs2) (show (rf_target w s - 1) < rf_S (rf_draw (rf_draw w)) from (by rw [E2.S]; exact (rf_target_ok q8).1)) (show 0 < rf_kn (rf_draw (rf_draw w)) (rf_target w s - 1) from (by rw [rf_kn_draw, rf_kn_draw]; exact (rf_target_ok q8).2)) (show rf_n ((rf_draw (rf_draw w)) 7) 2147483647 from (by rw [show (rf_draw (rf_draw w)) 7 = w 7 from (rf_upd_ne (by omega)).trans (rf_upd_ne (by omega))]; exact hB))) (fun g60_5 hg60_5 => ?_)
        obtain ⟨S60, F60⟩ := hg60_5
        have Q60 : cl_fq h g60_5 := fun i h9 => (F60 i (by omega)).trans (Q44 i h9)
        refine am_pop (pc := 63) C dX10_fire_63 rfl ?_
        exact am_vretvr T dX10_fire_64 rfl (Nat.le_refl _) (Nat.le_refl _) rfl ⟨by rw [rf_shoot, if_neg (by omega), if_pos (by omega)]; exact S60, Q60⟩
  · skip
    exact am_vretvr T dX10_fire_11 rfl (Nat.le_refl _) (Nat.le_refl _) rfl ⟨by rw [rf_shoot, if_pos (by omega)]; exact hSc, (fun _ _ => rfl)⟩

set_option maxHeartbeats 400000 in
set_option maxRecDepth 100000 in
theorem c_X10_passHour_p {ad : Nat → Nat} {r : am_R} (hR : am_rs r) {h : am_H}  (w : rf_W) (hV : rf_I w) (hLo : cl_Lo (h) 4 w) (hSc : cl_Sc (h) 41 w) (hB : rf_n (w 7) 1073741824) (hLw : rf_Lw w) (hLk : rf_Lk w) (hA : cl_La (h) 17 w)  : am_CM mX10_passHour 6 0 0 [.ref 40] (am_VV ad) r h (am_pr none r (fun c9 => cl_Sc c9 41 (rf_hour w) ∧ cl_fq (h) c9)) := by
  refine am_CM.of (by decide +kernel) (Nat.le_of_ble_eq_true rfl) (fun X C T => ?_)
  show am_G X (am_VV ad) (0, 0) 0 [(0, .ref 40)] [] r h
  have hM9 : rf_M w < 17 := hV.1.1.2
  have hS9 : rf_S w < 11 := hV.1.2.1.2
  have hO9 : rf_O w < 11 := hV.1.2.2.2
  obtain ⟨VG, PG⟩ := rf_goon_ok hV (rf_S w) (Nat.le_refl _)
  obtain ⟨EG, BG⟩ := rf_Es_goon hV (rf_S w) (Nat.le_refl _)
  have hSG : rf_S (rf_goon w (rf_S w)) = rf_S w := EG.S
  have hBG : rf_n ((rf_goon w (rf_S w)) 7) 1073741824 := by rw [BG]; exact hB
  obtain ⟨VH, PH⟩ := rf_shs_ok VG (rf_S w) (by omega)
  obtain ⟨EH, BH⟩ := rf_Es_shs VG hBG (by omega) (rf_S w) (by omega)
  have hSH : rf_S (rf_shs (rf_goon w (rf_S w)) (rf_S w)) = rf_S w := (EG.tr EH).S
  refine am_iconstN (pc := 0) (k := 0) C dX10_passHour_0 ?_
  refine am_istore_n (pc := 1) (ls' := [(0, .ref 40), (1, .int (nI 0))]) C dX10_passHour_1 (by decide) rfl ?_
  have L2 : ∀ (j2 : Nat) (ga : am_H) (n : Nat), (hnj : n + j2 = rf_S w) → (hSa : cl_Sc ga 41 (rf_goon w n)) → (hFa : cl_fq h ga) → am_G X (am_VV ad) (0, 0) 2 [(0, .ref 40), (1, .int (nI n))] [] r ga := by
    intro j2
    induction j2 with
    | zero =>
      intro ga n hnj hSa hFa
      obtain ⟨Va, Pa⟩ := rf_goon_ok hV n (by omega)
      have Ea := (rf_Es_goon hV n (by omega)).1
      have La : cl_Lo ga 4 (rf_goon w n) := cl_Lo_Es hV Ea (cl_Lo_eq (fun i a b => hFa i (by omega)) hLo)
      have Aa : cl_La ga 17 (rf_goon w n) := cl_La_Es Ea (cl_La_eq (fun i a b => hFa i (by omega)) hA)
      have hSAa : rf_S (rf_goon w n) = rf_S w := (Ea).S
      refine am_iload_n (pc := 2) C dX10_passHour_2 rfl ?_
      refine am_aload_n (pc := 3) C dX10_passHour_3 rfl ?_
      refine am_getR (pc := 4) (j := 4) C dX10_passHour_4 f10_9 bn_40 sh_40 (rf_40_0 hR) ?_
      refine am_getI (pc := 7) C dX10_passHour_7 f10_138 bn_4 sh_4 ?_
      refine am_top (show ((ga 4) 2) = (nI (rf_S (rf_goon w n))) from (La.1.2.2.1.trans Va.1.2.1.1)) ?_
      refine am_top (show (nI (rf_S (rf_goon w n))) = (nI (rf_S w)) from (congrArg nI hSAa)) ?_
      refine am_icmp_geN (pc := 10) (tgt := 24) C dX10_passHour_10 (by decide) (by omega) (by omega) (fun q10 => ?_) (fun q10 => ?_)
      · skip
        refine am_iconstN (pc := 24) (k := 0) C dX10_passHour_24 ?_
        refine am_istore_n (pc := 25) (ls' := [(0, .ref 40), (1, .int (nI 0))]) C dX10_passHour_25 (by decide) rfl ?_
        have L26 : ∀ (j26 : Nat) (gb : am_H) (m : Nat), (hmj : m + j26 = rf_S w) → (hSb : cl_Sc gb 41 (rf_shs (rf_goon w (rf_S w)) m)) → (hFb : cl_fq h gb) → am_G X (am_VV ad) (0, 0) 26 [(0, .ref 40), (1, .int (nI m))] [] r gb := by
          intro j26
          induction j26 with
          | zero =>
            intro gb m hmj hSb hFb
            obtain ⟨Vb, Pb⟩ := rf_shs_ok VG m (by omega)
            obtain ⟨Eb, Bb⟩ := rf_Es_shs VG hBG (by omega) m (by omega)
            have Lb : cl_Lo gb 4 (rf_shs (rf_goon w (rf_S w)) m) := cl_Lo_Es hV (EG.tr Eb) (cl_Lo_eq (fun i a b => hFb i (by omega)) hLo)
            have Ab : cl_La gb 17 (rf_shs (rf_goon w (rf_S w)) m) := cl_La_Es (EG.tr Eb) (cl_La_eq (fun i a b => hFb i (by omega)) hA)
            have hSAb : rf_S (rf_shs (rf_goon w (rf_S w)) m) = rf_S w := ((EG.tr Eb)).S
            refine am_iload_n (pc := 26) C dX10_passHour_26 rfl ?_
            refine am_aload_n (pc := 27) C dX10_passHour_27 rfl ?_
            refine am_getR (pc := 28) (j := 4) C dX10_passHour_28 f10_9 bn_40 sh_40 (rf_40_0 hR) ?_
            refine am_getI (pc := 31) C dX10_passHour_31 f10_138 bn_4 sh_4 ?_
            refine am_top (show ((gb 4) 2) = (nI (rf_S (rf_shs (rf_goon w (rf_S w)) m))) from (Lb.1.2.2.1.trans Vb.1.2.1.1)) ?_
            refine am_top (show (nI (rf_S (rf_shs (rf_goon w (rf_S w)) m))) = (nI (rf_S w)) from (congrArg nI hSAb)) ?_
            refine am_icmp_geN (pc := 34) (tgt := 48) C dX10_passHour_34 (by decide) (by omega) (by omega) (fun q34 => ?_) (fun q34 => ?_)
            · skip
              refine am_iconstN (pc := 48) (k := 0) C dX10_passHour_48 ?_
              refine am_istore_n (pc := 49) (ls' := [(0, .ref 40), (1, .int (nI 0))]) C dX10_passHour_49 (by decide) rfl ?_
              have L50 : ∀ (j50 : Nat) (gc : am_H) (k : Nat), (hkj : k + j50 = rf_S w) → (hSd : cl_Sc gc 41 (rf_rds (rf_shs (rf_goon w (rf_S w)) (rf_S w)) k)) → (hFc : cl_fq h gc) → am_G X (am_VV ad) (0, 0) 50 [(0, .ref 40), (1, .int (nI k))] [] r gc := by
                intro j50
                induction j50 with
                | zero =>
                  intro gc k hkj hSd hFc
                  obtain ⟨Vc, Pc⟩ := rf_rds_ok VH k (by omega)
                  have Ec := (rf_Es_rds VH k (by omega)).1
                  have Lc : cl_Lo gc 4 (rf_rds (rf_shs (rf_goon w (rf_S w)) (rf_S w)) k) := cl_Lo_Es hV ((EG.tr EH).tr Ec) (cl_Lo_eq (fun i a b => hFc i (by omega)) hLo)
                  have Ac : cl_La gc 17 (rf_rds (rf_shs (rf_goon w (rf_S w)) (rf_S w)) k) := cl_La_Es ((EG.tr EH).tr Ec) (cl_La_eq (fun i a b => hFc i (by omega)) hA)
                  have hSAc : rf_S (rf_rds (rf_shs (rf_goon w (rf_S w)) (rf_S w)) k) = rf_S w := (((EG.tr EH).tr Ec)).S
                  refine am_iload_n (pc := 50) C dX10_passHour_50 rfl ?_
                  refine am_aload_n (pc := 51) C dX10_passHour_51 rfl ?_
                  refine am_getR (pc := 52) (j := 4) C dX10_passHour_52 f10_9 bn_40 sh_40 (rf_40_0 hR) ?_
                  refine am_getI (pc := 55) C dX10_passHour_55 f10_138 bn_4 sh_4 ?_
                  refine am_top (show ((gc 4) 2) = (nI (rf_S (rf_rds (rf_shs (rf_goon w (rf_S w)) (rf_S w)) k))) from (Lc.1.2.2.1.trans Vc.1.2.1.1)) ?_
                  refine am_top (show (nI (rf_S (rf_rds (rf_shs (rf_goon w (rf_S w)) (rf_S w)) k))) = (nI (rf_S w)) from (congrArg nI hSAc)) ?_
                  refine am_icmp_geN (pc := 58) (tgt := 96) C dX10_passHour_58 (by decide) (by omega) (by omega) (fun q58 => ?_) (fun q58 => ?_)
                  · skip
                    refine am_aload_n (pc := 96) C dX10_passHour_96 rfl ?_
                    refine am_getR (pc := 97) (j := 41) C dX10_passHour_97 f10_22 bn_40 sh_40 (rf_40_2 hR) ?_
                    refine am_dup (pc := 100) C dX10_passHour_100 rfl ?_
                    refine am_getI (pc := 101) C dX10_passHour_101 f10_169 bn_41 sh_41 ?_
                    refine am_top (show ((gc 41) 0) = ((rf_rds (rf_shs (rf_goon w (rf_S w)) (rf_S w)) k) 5) from hSd.1.1) ?_
                    refine am_iconstN (pc := 104) (k := 1) C dX10_passHour_104 ?_
                    refine am_iadd (pc := 105) C dX10_passHour_105 ?_
                    refine am_putI (pc := 106) C dX10_passHour_106 f10_169 bn_41 sh_41 rfl rfl ?_
                    refine am_hp (show am_up gc 41 0 (((rf_rds (rf_shs (rf_goon w (rf_S w)) (rf_S w)) k) 5) + (nI 1)) = am_row gc 41 (upd (gc 41) 0 (((rf_rds (rf_shs (rf_goon w (rf_S w)) (rf_S w)) k) 5) + (nI 1))) from am_up_rw _ _ _ _) ?_
                    exact am_vretvr T dX10_passHour_109 rfl (Nat.le_refl _) (Nat.le_refl _) rfl ⟨by rw [rf_hour, ← show rf_rds (rf_shs (rf_goon w (rf_S w)) (rf_S w)) k = rf_rds (rf_shs (rf_goon w (rf_S w)) (rf_S w)) (rf_S w) by rw [show k = rf_S w by omega]]; exact cl_Sc_num Vc hSd (Or.inl ⟨rfl, rfl⟩) rfl (fun i h7 g7 => by rw [am_row_ne _ _ _ (by omega)]), (fun i9 h9 => by rw [am_row_ne _ _ _ (by omega)]; exact hFc i9 h9)⟩
                  · skip
                    exact absurd q58 (by omega)
                | succ j50 ih50 =>
                  intro gc k hkj hSd hFc
                  obtain ⟨Vc, Pc⟩ := rf_rds_ok VH k (by omega)
                  have Ec := (rf_Es_rds VH k (by omega)).1
                  have Lc : cl_Lo gc 4 (rf_rds (rf_shs (rf_goon w (rf_S w)) (rf_S w)) k) := cl_Lo_Es hV ((EG.tr EH).tr Ec) (cl_Lo_eq (fun i a b => hFc i (by omega)) hLo)
                  have Ac : cl_La gc 17 (rf_rds (rf_shs (rf_goon w (rf_S w)) (rf_S w)) k) := cl_La_Es ((EG.tr EH).tr Ec) (cl_La_eq (fun i a b => hFc i (by omega)) hA)
                  have hSAc : rf_S (rf_rds (rf_shs (rf_goon w (rf_S w)) (rf_S w)) k) = rf_S w := (((EG.tr EH).tr Ec)).S
                  refine am_iload_n (pc := 50) C dX10_passHour_50 rfl ?_
                  refine am_aload_n (pc := 51) C dX10_passHour_51 rfl ?_
                  refine am_getR (pc := 52) (j := 4) C dX10_passHour_52 f10_9 bn_40 sh_40 (rf_40_0 hR) ?_
                  refine am_getI (pc := 55) C dX10_passHour_55 f10_138 bn_4 sh_4 ?_
                  refine am_top (show ((gc 4) 2) = (nI (rf_S (rf_rds (rf_shs (rf_goon w (rf_S w)) (rf_S w)) k))) from (Lc.1.2.2.1.trans Vc.1.2.1.1)) ?_
                  refine am_top (show (nI (rf_S (rf_rds (rf_shs (rf_goon w (rf_S w)) (rf_S w)) k))) = (nI (rf_S w)) from (congrArg nI hSAc)) ?_
                  refine am_icmp_geN (pc := 58) (tgt := 96) C dX10_passHour_58 (by decide) (by omega) (by omega) (fun q58 => ?_) (fun q58 => ?_)
                  · skip
                    exact absurd q58 (by omega)
                  · skip
                    refine am_aload_n (pc := 61) C dX10_passHour_61 rfl ?_
                    refine am_getR (pc := 62) (j := 4) C dX10_passHour_62 f10_9 bn_40 sh_40 (rf_40_0 hR) ?_
                    refine am_getR (pc := 65) (j := 11) C dX10_passHour_65 f10_135 bn_4 sh_4 (rf_4_10 hR) ?_
                    refine am_iload_n (pc := 68) C dX10_passHour_68 rfl ?_
                    refine am_callSNi (Y := mX11_pick) (pc := 69) (st := []) (As := [.ref 11, .int (nI k)]) (x := ((gc 11) k)) (h2 := gc) C dX10_passHour_69 k10_54 v_X11_pick rfl rfl (by decide) (Nat.zero_le _) (Nat.zero_le _) (Nat.le_of_ble_eq_true rfl) (c_X11_pick 11 k 10 bn_11 sh_11 (show k < 10 from by omega) (by decide)) ?_
                    refine am_top (show ((gc 11) k) = (rf_of (rf_rds (rf_shs (rf_goon w (rf_S w)) (rf_S w)) k) k 22) from (Lc.2.2.1 k (by omega)).2.1) ?_
                    refine am_if_eq (pc := 72) (tgt := 90) C dX10_passHour_72 (by decide) (fun q72 => ?_) (fun q72 => ?_)
                    · skip
                      refine am_iincN (pc := 90) (ls' := [(0, .ref 40), (1, .int (nI (k + 1)))]) C dX10_passHour_90 rfl (am_up1 _) (by decide) rfl ?_
                      refine am_goto (pc := 93) (tgt := 50) C dX10_passHour_93 (by decide) ?_
                      exact ih50 gc (k + 1) (by omega) (by rw [rf_rds, if_neg (fun z => z.1 q72)]; exact hSd) hFc
                    · skip
                      refine am_aload_n (pc := 75) C dX10_passHour_75 rfl ?_
                      refine am_iload_n (pc := 76) C dX10_passHour_76 rfl ?_
                      refine am_iconstN (pc := 77) (k := 2) C dX10_passHour_77 ?_
                      refine am_callVir (Y := mX10_ruled) (pc := 78) (st := []) (As := [.int (nI k), .int (nI 2)]) (x := (nI (cl_says (rf_rds (rf_shs (rf_goon w (rf_S w)) (rf_S w)) k) 2 k))) (PP := fun c9 => cl_fr (gc) c9 23 2) C dX10_passHour_78 k10_163 v_X10_ruled rfl rfl bn_40 sh_40 ⟨by decide, rfl⟩ (by decide) (Nat.zero_le _) (Nat.zero_le _) (Nat.le_of_ble_eq_true rfl) (c_X10_ruled_p hR k 2 (rf_rds (rf_shs (rf_goon w (rf_S w)) (rf_S w)) k) Vc Lc hSd (show k < rf_S (rf_rds (rf_shs (rf_goon w (rf_S w)) (rf_S w)) k) from (by omega)) (show 2 < 3 from (by omega)) (show rf_Lw (rf_rds (rf_shs (rf_goon w (rf_S w)) (rf_S w)) k) from (((PG.tr PH).tr Pc).L hLw)) (show rf_Lk (rf_rds (rf_shs (rf_goon w (rf_S w)) (rf_S w)) k) from (rf_Lk_Eq ((PG.tr PH).tr Pc) hLk)) (show cl_La (gc) 17 (rf_rds (rf_shs (rf_goon w (rf_S w)) (rf_S w)) k) from Ac)) (fun g78_3 hg78_3 => ?_)
                      have F78 := hg78_3
                      have S78 : cl_Sc g78_3 41 (rf_rds (rf_shs (rf_goon w (rf_S w)) (rf_S w)) k) := cl_Sc_eq (fun i a b => F78 i (by omega)) hSd
                      have Q78 : cl_fq h g78_3 := fun i h9 => (F78 i (by omega)).trans (hFc i h9)
                      have L78 : cl_Lo g78_3 4 (rf_rds (rf_shs (rf_goon w (rf_S w)) (rf_S w)) k) := cl_Lo_Es hV ((EG.tr EH).tr Ec) (cl_Lo_eq (fun i a b => Q78 i (by omega)) hLo)
                      have hc78 : cl_says (rf_rds (rf_shs (rf_goon w (rf_S w)) (rf_S w)) k) 2 k ≤ 100 := cl_says_le
                      refine am_if_leN (pc := 81) (tgt := 90) C dX10_passHour_81 (by decide) (by omega) (fun q81 => ?_) (fun q81 => ?_)
                      · skip
                        refine am_iincN (pc := 90) (ls' := [(0, .ref 40), (1, .int (nI (k + 1)))]) C dX10_passHour_90 rfl (am_up1 _) (by decide) rfl ?_
                        refine am_goto (pc := 93) (tgt := 50) C dX10_passHour_93 (by decide) ?_
                        exact ih50 g78_3 (k + 1) (by omega) (by rw [rf_rds, if_neg (fun z => by have := cl_says_21.mpr z.2; omega)]; exact S78) Q78
                      · skip
                        refine am_aload_n (pc := 84) C dX10_passHour_84 rfl ?_
                        refine am_iload_n (pc := 85) C dX10_passHour_85 rfl ?_
                        refine am_callVir (Y := mX10_readAloud) (pc := 86) (st := []) (As := [.int (nI k)]) (x := (nI ((rf_read (rf_rds (rf_shs (rf_goon w (rf_S w)) (rf_S w)) k) k).2))) (PP := fun c9 => cl_Sc c9 41 (rf_read (rf_rds (rf_shs (rf_goon w (rf_S w)) (rf_S w)) k) k).1 ∧ cl_fr (g78_3) c9 41 15) C dX10_passHour_86 k10_166 v_X10_readAloud rfl rfl bn_40 sh_40 ⟨by decide, rfl⟩ (by decide) (Nat.zero_le _) (Nat.zero_le _) (Nat.le_of_ble_eq_true rfl) (c_X10_readAloud_p hR k (rf_rds (rf_shs (rf_goon w (rf_S w)) (rf_S w)) k) Vc L78 S78 (show k < rf_S (rf_rds (rf_shs (rf_goon w (rf_S w)) (rf_S w)) k) from (by omega))) (fun g86_4 hg86_4 => ?_)
                        obtain ⟨S86, F86⟩ := hg86_4
                        refine am_pop (pc := 89) C dX10_passHour_89 rfl ?_
                        refine am_iincN (pc := 90) (ls' := [(0, .ref 40), (1, .int (nI (k + 1)))]) C dX10_passHour_90 rfl (am_up1 _) (by decide) rfl ?_
                        refine am_goto (pc := 93) (tgt := 50) C dX10_passHour_93 (by decide) ?_
                        exact ih50 g86_4 (k + 1) (by omega) (by rw [rf_rds, if_pos ⟨q72, cl_says_21.mp (by omega)⟩]; exact S86) (fun i h9 => (F86 i (by omega)).trans (Q78 i h9))
              exact L50 (rf_S w) gb 0 (by omega) (by show cl_Sc gb 41 (rf_shs (rf_goon w (rf_S w)) (rf_S w)); rw [show (rf_shs (rf_goon w (rf_S w)) (rf_S w)) = rf_shs (rf_goon w (rf_S w)) m by rw [show m = rf_S w by omega]]; exact hSb) hFb
            · skip
              exact absurd q34 (by omega)
          | succ j26 ih26 =>
            intro gb m hmj hSb hFb
            obtain ⟨Vb, Pb⟩ := rf_shs_ok VG m (by omega)
            obtain ⟨Eb, Bb⟩ := rf_Es_shs VG hBG (by omega) m (by omega)
            have Lb : cl_Lo gb 4 (rf_shs (rf_goon w (rf_S w)) m) := cl_Lo_Es hV (EG.tr Eb) (cl_Lo_eq (fun i a b => hFb i (by omega)) hLo)
            have Ab : cl_La gb 17 (rf_shs (rf_goon w (rf_S w)) m) := cl_La_Es (EG.tr Eb) (cl_La_eq (fun i a b => hFb i (by omega)) hA)
            have hSAb : rf_S (rf_shs (rf_goon w (rf_S w)) m) = rf_S w := ((EG.tr Eb)).S
            refine am_iload_n (pc := 26) C dX10_passHour_26 rfl ?_
            refine am_aload_n (pc := 27) C dX10_passHour_27 rfl ?_
            refine am_getR (pc := 28) (j := 4) C dX10_passHour_28 f10_9 bn_40 sh_40 (rf_40_0 hR) ?_
            refine am_getI (pc := 31) C dX10_passHour_31 f10_138 bn_4 sh_4 ?_
            refine am_top (show ((gb 4) 2) = (nI (rf_S (rf_shs (rf_goon w (rf_S w)) m))) from (Lb.1.2.2.1.trans Vb.1.2.1.1)) ?_
            refine am_top (show (nI (rf_S (rf_shs (rf_goon w (rf_S w)) m))) = (nI (rf_S w)) from (congrArg nI hSAb)) ?_
            refine am_icmp_geN (pc := 34) (tgt := 48) C dX10_passHour_34 (by decide) (by omega) (by omega) (fun q34 => ?_) (fun q34 => ?_)
            · skip
              exact absurd q34 (by omega)
            · skip
              refine am_aload_n (pc := 37) C dX10_passHour_37 rfl ?_
              refine am_iload_n (pc := 38) C dX10_passHour_38 rfl ?_
              refine am_callVvr (Y := mX10_fire) (pc := 39) (st := []) (As := [.int (nI m)]) (PP := fun c9 => cl_Sc c9 41 (rf_shoot (rf_shs (rf_goon w (rf_S w)) m) m) ∧ cl_fq (gb) c9) C dX10_passHour_39 k10_160 v_X10_fire rfl rfl bn_40 sh_40 ⟨by decide, rfl⟩ (by decide) (Nat.zero_le _) (Nat.zero_le _) (Nat.le_of_ble_eq_true rfl) (c_X10_fire_p hR m (rf_shs (rf_goon w (rf_S w)) m) Vb Lb hSb (show m < rf_S (rf_shs (rf_goon w (rf_S w)) m) from (by omega)) (show rf_n ((rf_shs (rf_goon w (rf_S w)) m) 7) 2147483647 from ⟨Bb.1, by have h9 := Bb.2; omega⟩) (show rf_Lw (rf_shs (rf_goon w (rf_S w)) m) from ((PG.tr Pb).L hLw)) (show rf_Lk (rf_shs (rf_goon w (rf_S w)) m) from (rf_Lk_Eq (PG.tr Pb) hLk)) (show cl_La (gb) 17 (rf_shs (rf_goon w (rf_S w)) m) from Ab)) (fun g39_5 hg39_5 => ?_)
              obtain ⟨S39, F39⟩ := hg39_5
              refine am_iincN (pc := 42) (ls' := [(0, .ref 40), (1, .int (nI (m + 1)))]) C dX10_passHour_42 rfl (am_up1 _) (by decide) rfl ?_
              refine am_goto (pc := 45) (tgt := 26) C dX10_passHour_45 (by decide) ?_
              exact ih26 g39_5 (m + 1) (by omega) S39 (fun i h9 => (F39 i (by omega)).trans (hFb i h9))
        exact L26 (rf_S w) ga 0 (by omega) (by rw [← show n = rf_S w by omega]; exact hSa) hFa
      · skip
        exact absurd q10 (by omega)
    | succ j2 ih2 =>
      intro ga n hnj hSa hFa
      obtain ⟨Va, Pa⟩ := rf_goon_ok hV n (by omega)
      have Ea := (rf_Es_goon hV n (by omega)).1
      have La : cl_Lo ga 4 (rf_goon w n) := cl_Lo_Es hV Ea (cl_Lo_eq (fun i a b => hFa i (by omega)) hLo)
      have Aa : cl_La ga 17 (rf_goon w n) := cl_La_Es Ea (cl_La_eq (fun i a b => hFa i (by omega)) hA)
      have hSAa : rf_S (rf_goon w n) = rf_S w := (Ea).S
      refine am_iload_n (pc := 2) C dX10_passHour_2 rfl ?_
      refine am_aload_n (pc := 3) C dX10_passHour_3 rfl ?_
      refine am_getR (pc := 4) (j := 4) C dX10_passHour_4 f10_9 bn_40 sh_40 (rf_40_0 hR) ?_
      refine am_getI (pc := 7) C dX10_passHour_7 f10_138 bn_4 sh_4 ?_
      refine am_top (show ((ga 4) 2) = (nI (rf_S (rf_goon w n))) from (La.1.2.2.1.trans Va.1.2.1.1)) ?_
      refine am_top (show (nI (rf_S (rf_goon w n))) = (nI (rf_S w)) from (congrArg nI hSAa)) ?_
      refine am_icmp_geN (pc := 10) (tgt := 24) C dX10_passHour_10 (by decide) (by omega) (by omega) (fun q10 => ?_) (fun q10 => ?_)
      · skip
        exact absurd q10 (by omega)
      · skip
        refine am_aload_n (pc := 13) C dX10_passHour_13 rfl ?_
        refine am_iload_n (pc := 14) C dX10_passHour_14 rfl ?_
        refine am_callVvr (Y := mX10_goOn) (pc := 15) (st := []) (As := [.int (nI n)]) (PP := fun c9 => cl_Sc c9 41 (upd (rf_goon w n) (61 + 23 * n + 1) (nI ((rf_ofn (rf_goon w n) n 1 + 1) % rf_ofn (rf_goon w n) n 2))) ∧ cl_fr (ga) c9 41 15) C dX10_passHour_15 k10_156 v_X10_goOn rfl rfl bn_40 sh_40 ⟨by decide, rfl⟩ (by decide) (Nat.zero_le _) (Nat.zero_le _) (Nat.le_of_ble_eq_true rfl) (c_X10_goOn_p hR n (rf_goon w n) Va La hSa (show n < rf_S (rf_goon w n) from (by omega))) (fun g15_6 hg15_6 => ?_)
        obtain ⟨S15, F15⟩ := hg15_6
        refine am_iincN (pc := 18) (ls' := [(0, .ref 40), (1, .int (nI (n + 1)))]) C dX10_passHour_18 rfl (am_up1 _) (by decide) rfl ?_
        refine am_goto (pc := 21) (tgt := 2) C dX10_passHour_21 (by decide) ?_
        exact ih2 g15_6 (n + 1) (by omega) S15 (fun i h9 => (F15 i (by omega)).trans (hFa i h9))
  exact L2 (rf_S w) h 0 (by omega) hSc (fun _ _ => rfl)

