/-! THE CLASS: worlds copied -/
section M34
theorem cl_Lo_cpy {h h' : am_H} {b b' : Nat} {w : rf_W} (hI : rf_I w) (L : cl_Lo h b w) (f0 : h' b' 0 = h b 0) (f1 : h' b' 1 = h b 1) (f2 : h' b' 2 = h b 2) (f3 : h' b' 3 = h b 3)
    (e1 : ∀ k, k < 16 → h' (b' + 1) k = h (b + 1) k) (e2 : ∀ k, k < 16 → h' (b' + 2) k = h (b + 2) k) (e3 : ∀ k, k < 16 → h' (b' + 3) k = h (b + 3) k) (e4 : ∀ k, k < 16 → h' (b' + 4) k = h (b + 4) k) (e5 : ∀ k, k < 16 → h' (b' + 5) k = h (b + 5) k) (e6 : ∀ k, k < 10 → h' (b' + 6) k = h (b + 6) k)
    (e7 : ∀ k, k < 10 → h' (b' + 7) k = h (b + 7) k) (e8 : ∀ k, k < 10 → h' (b' + 8) k = h (b + 8) k) (e9 : ∀ k, k < 60 → h' (b' + 9) k = h (b + 9) k) (e10 : ∀ k, k < 10 → h' (b' + 10) k = h (b + 10) k) (e11 : ∀ k, k < 10 → h' (b' + 11) k = h (b + 11) k) (e12 : ∀ k, k < 2 → h' (b' + 12) k = h (b + 12) k) : cl_Lo h' b' w := by
  have hM : rf_M w < 17 := hI.1.1.2
  have hS : rf_S w < 11 := hI.1.2.1.2
  have hO : rf_O w < 11 := hI.1.2.2.2
  obtain ⟨s1, s2, s3, s4, s5⟩ := L
  refine ⟨⟨f0.trans s1.1, f1.trans s1.2.1, f2.trans s1.2.2.1, f3.trans s1.2.2.2⟩, fun m hm => ?_, fun s hs => ?_, fun o ho => ?_, (e12 0 (by omega)).trans s5.1, (e12 1 (by omega)).trans s5.2⟩
  · obtain ⟨a1, a2, a3, a4, a5⟩ := s2 m hm
    exact ⟨(e1 m (by omega)).trans a1, (e2 m (by omega)).trans a2, (e3 m (by omega)).trans a3, (e4 m (by omega)).trans a4, (e5 m (by omega)).trans a5⟩
  · obtain ⟨a1, a2, a3, a4⟩ := s3 s hs
    have h7 : rf_ofn w s 2 < 7 := (hI.2.1 s hs).2.1.2
    exact ⟨(e6 s (by omega)).trans a1, (e7 s (by omega)).trans a2, (e8 s (by omega)).trans a3, fun k hk => (e9 _ (by omega)).trans (a4 k hk)⟩
  · obtain ⟨a1, a2⟩ := s4 o ho
    exact ⟨(e10 o (by omega)).trans a1, (e11 o (by omega)).trans a2⟩
theorem cl_La_cpy {h h' : am_H} {b b' : Nat} {w : rf_W} (hL : rf_Lw w) (A : cl_La h b w) (f0 : h' b' 0 = h b 0)
    (e1 : ∀ k, k < 12 → h' (b' + 1) k = h (b + 1) k) (e2 : ∀ k, k < 12 → h' (b' + 2) k = h (b + 2) k) (e3 : ∀ k, k < 12 → h' (b' + 3) k = h (b + 3) k) (e4 : ∀ k, k < 12 → h' (b' + 4) k = h (b + 4) k) (e5 : ∀ k, k < 400 → h' (b' + 5) k = h (b + 5) k) : cl_La h' b' w := by
  refine ⟨fun h0 => f0.trans (A.1 h0), fun h0 => ?_⟩
  obtain ⟨a1, a2⟩ := A.2 h0
  have h13 : rf_nat (w 731) < 13 := (hL h0).1.2
  refine ⟨f0.trans a1, fun n hn => ?_⟩
  obtain ⟨c1, c2, c3, c4, c5⟩ := a2 n hn
  have h4 : rf_nat (w (732 + 4 * n + 3)) < 401 := ((hL h0).2 n hn).2.2.2.1.2
  exact ⟨(e1 n (by omega)).trans c1, (e2 n (by omega)).trans c2, (e3 n (by omega)).trans c3, (e4 n (by omega)).trans c4, fun i h1 h2 => (e5 i (by omega)).trans (c5 i h1 h2)⟩
end M34

set_option maxHeartbeats 400000 in
set_option maxRecDepth 100000 in
theorem c_X3_copyFrom {ad : Nat → Nat} {r : am_R} (hR : am_rs r) {h : am_H}  (w : rf_W) (hV : rf_I w) (hLo : cl_Lo (h) 4 w)  : am_CM mX3_copyFrom 3 0 0 [.ref 57, .ref 4] (am_VV ad) r h (am_pr none r (fun c9 => cl_Lo c9 57 w ∧ cl_fr (h) c9 57 13)) := by
  refine am_CM.of (by decide +kernel) (Nat.le_of_ble_eq_true rfl) (fun X C T => ?_)
  show am_G X (am_VV ad) (0, 0) 0 [(0, .ref 57), (1, .ref 4)] [] r h
  refine am_aload_n (pc := 0) C dX3_copyFrom_0 rfl ?_
  refine am_aload_n (pc := 1) C dX3_copyFrom_1 rfl ?_
  refine am_getI (pc := 2) C dX3_copyFrom_2 f3_48 bn_4 sh_4 ?_
  refine am_putI (pc := 5) C dX3_copyFrom_5 f3_48 bn_57 sh_57 rfl rfl ?_
  refine am_hp (show am_up h 57 0 ((h 4) 0) = am_row h 57 (upd (h 57) 0 ((h 4) 0)) from am_up_rw _ _ _ _) ?_
  refine am_aload_n (pc := 8) C dX3_copyFrom_8 rfl ?_
  refine am_aload_n (pc := 9) C dX3_copyFrom_9 rfl ?_
  refine am_getI (pc := 10) C dX3_copyFrom_10 f3_52 bn_4 sh_4 ?_
  refine am_putI (pc := 13) C dX3_copyFrom_13 f3_52 bn_57 sh_57 rfl rfl ?_
  refine am_hp (show am_up (am_row h 57 (upd (h 57) 0 ((h 4) 0))) 57 1 ((h 4) 1) = am_row (am_row h 57 (upd (h 57) 0 ((h 4) 0))) 57 (upd (upd (h 57) 0 ((h 4) 0)) 1 ((h 4) 1)) from am_up_rw _ _ _ _) ?_
  refine am_hp (show am_row (am_row h 57 (upd (h 57) 0 ((h 4) 0))) 57 (upd (upd (h 57) 0 ((h 4) 0)) 1 ((h 4) 1)) = (am_row h 57 (upd (upd (h 57) 0 ((h 4) 0)) 1 ((h 4) 1))) from am_row_s0) ?_
  refine am_aload_n (pc := 16) C dX3_copyFrom_16 rfl ?_
  refine am_aload_n (pc := 17) C dX3_copyFrom_17 rfl ?_
  refine am_getI (pc := 18) C dX3_copyFrom_18 f3_55 bn_4 sh_4 ?_
  refine am_putI (pc := 21) C dX3_copyFrom_21 f3_55 bn_57 sh_57 rfl rfl ?_
  refine am_hp (show am_up (am_row h 57 (upd (upd (h 57) 0 ((h 4) 0)) 1 ((h 4) 1))) 57 2 ((h 4) 2) = am_row (am_row h 57 (upd (upd (h 57) 0 ((h 4) 0)) 1 ((h 4) 1))) 57 (upd (upd (upd (h 57) 0 ((h 4) 0)) 1 ((h 4) 1)) 2 ((h 4) 2)) from am_up_rw _ _ _ _) ?_
  refine am_hp (show am_row (am_row h 57 (upd (upd (h 57) 0 ((h 4) 0)) 1 ((h 4) 1))) 57 (upd (upd (upd (h 57) 0 ((h 4) 0)) 1 ((h 4) 1)) 2 ((h 4) 2)) = (am_row h 57 (upd (upd (upd (h 57) 0 ((h 4) 0)) 1 ((h 4) 1)) 2 ((h 4) 2))) from am_row_s0) ?_
  refine am_aload_n (pc := 24) C dX3_copyFrom_24 rfl ?_
  refine am_aload_n (pc := 25) C dX3_copyFrom_25 rfl ?_
  refine am_getI (pc := 26) C dX3_copyFrom_26 f3_58 bn_4 sh_4 ?_
  refine am_putI (pc := 29) C dX3_copyFrom_29 f3_58 bn_57 sh_57 rfl rfl ?_
  refine am_hp (show am_up (am_row h 57 (upd (upd (upd (h 57) 0 ((h 4) 0)) 1 ((h 4) 1)) 2 ((h 4) 2))) 57 3 ((h 4) 3) = am_row (am_row h 57 (upd (upd (upd (h 57) 0 ((h 4) 0)) 1 ((h 4) 1)) 2 ((h 4) 2))) 57 (upd (upd (upd (upd (h 57) 0 ((h 4) 0)) 1 ((h 4) 1)) 2 ((h 4) 2)) 3 ((h 4) 3)) from am_up_rw _ _ _ _) ?_
  refine am_hp (show am_row (am_row h 57 (upd (upd (upd (h 57) 0 ((h 4) 0)) 1 ((h 4) 1)) 2 ((h 4) 2))) 57 (upd (upd (upd (upd (h 57) 0 ((h 4) 0)) 1 ((h 4) 1)) 2 ((h 4) 2)) 3 ((h 4) 3)) = (am_row h 57 (upd (upd (upd (upd (h 57) 0 ((h 4) 0)) 1 ((h 4) 1)) 2 ((h 4) 2)) 3 ((h 4) 3))) from am_row_s0) ?_
  refine am_aload_n (pc := 32) C dX3_copyFrom_32 rfl ?_
  refine am_getR (pc := 33) (j := 5) C dX3_copyFrom_33 f3_9 bn_4 sh_4 (rf_4_4 hR) ?_
  refine am_aload_n (pc := 36) C dX3_copyFrom_36 rfl ?_
  refine am_getR (pc := 37) (j := 58) C dX3_copyFrom_37 f3_9 bn_57 sh_57 (rf_57_4 hR) ?_
  refine am_callSNv (Y := mX11_copyRow) (pc := 40) (st := []) (As := [.ref 5, .ref 58]) (h2 := (am_row (am_row h 57 (upd (upd (upd (upd (h 57) 0 ((h 4) 0)) 1 ((h 4) 1)) 2 ((h 4) 2)) 3 ((h 4) 3))) 58 (va_cpy (h 5) (h 58) 0 0 16))) C dX3_copyFrom_40 k3_61 v_X11_copyRow rfl rfl (by decide) (Nat.zero_le _) (Nat.zero_le _) (Nat.le_of_ble_eq_true rfl) (c_X11_copyRow hR 5 58 16 bn_5 sh_5 bn_58 sh_58 (by decide)) ?_
  refine am_aload_n (pc := 43) C dX3_copyFrom_43 rfl ?_
  refine am_getR (pc := 44) (j := 6) C dX3_copyFrom_44 f3_15 bn_4 sh_4 (rf_4_5 hR) ?_
  refine am_aload_n (pc := 47) C dX3_copyFrom_47 rfl ?_
  refine am_getR (pc := 48) (j := 59) C dX3_copyFrom_48 f3_15 bn_57 sh_57 (rf_57_5 hR) ?_
  refine am_callSNv (Y := mX11_copyRow) (pc := 51) (st := []) (As := [.ref 6, .ref 59]) (h2 := (am_row (am_row (am_row h 57 (upd (upd (upd (upd (h 57) 0 ((h 4) 0)) 1 ((h 4) 1)) 2 ((h 4) 2)) 3 ((h 4) 3))) 58 (va_cpy (h 5) (h 58) 0 0 16)) 59 (va_cpy (h 6) (h 59) 0 0 16))) C dX3_copyFrom_51 k3_61 v_X11_copyRow rfl rfl (by decide) (Nat.zero_le _) (Nat.zero_le _) (Nat.le_of_ble_eq_true rfl) (c_X11_copyRow hR 6 59 16 bn_6 sh_6 bn_59 sh_59 (by decide)) ?_
  refine am_aload_n (pc := 54) C dX3_copyFrom_54 rfl ?_
  refine am_getR (pc := 55) (j := 7) C dX3_copyFrom_55 f3_18 bn_4 sh_4 (rf_4_6 hR) ?_
  refine am_aload_n (pc := 58) C dX3_copyFrom_58 rfl ?_
  refine am_getR (pc := 59) (j := 60) C dX3_copyFrom_59 f3_18 bn_57 sh_57 (rf_57_6 hR) ?_
  refine am_callSNv (Y := mX11_copyRow) (pc := 62) (st := []) (As := [.ref 7, .ref 60]) (h2 := (am_row (am_row (am_row (am_row h 57 (upd (upd (upd (upd (h 57) 0 ((h 4) 0)) 1 ((h 4) 1)) 2 ((h 4) 2)) 3 ((h 4) 3))) 58 (va_cpy (h 5) (h 58) 0 0 16)) 59 (va_cpy (h 6) (h 59) 0 0 16)) 60 (va_cpy (h 7) (h 60) 0 0 16))) C dX3_copyFrom_62 k3_61 v_X11_copyRow rfl rfl (by decide) (Nat.zero_le _) (Nat.zero_le _) (Nat.le_of_ble_eq_true rfl) (c_X11_copyRow hR 7 60 16 bn_7 sh_7 bn_60 sh_60 (by decide)) ?_
  refine am_aload_n (pc := 65) C dX3_copyFrom_65 rfl ?_
  refine am_getR (pc := 66) (j := 8) C dX3_copyFrom_66 f3_21 bn_4 sh_4 (rf_4_7 hR) ?_
  refine am_aload_n (pc := 69) C dX3_copyFrom_69 rfl ?_
  refine am_getR (pc := 70) (j := 61) C dX3_copyFrom_70 f3_21 bn_57 sh_57 (rf_57_7 hR) ?_
  refine am_callSNv (Y := mX11_copyRow) (pc := 73) (st := []) (As := [.ref 8, .ref 61]) (h2 := (am_row (am_row (am_row (am_row (am_row h 57 (upd (upd (upd (upd (h 57) 0 ((h 4) 0)) 1 ((h 4) 1)) 2 ((h 4) 2)) 3 ((h 4) 3))) 58 (va_cpy (h 5) (h 58) 0 0 16)) 59 (va_cpy (h 6) (h 59) 0 0 16)) 60 (va_cpy (h 7) (h 60) 0 0 16)) 61 (va_cpy (h 8) (h 61) 0 0 16))) C dX3_copyFrom_73 k3_61 v_X11_copyRow rfl rfl (by decide) (Nat.zero_le _) (Nat.zero_le _) (Nat.le_of_ble_eq_true rfl) (c_X11_copyRow hR 8 61 16 bn_8 sh_8 bn_61 sh_61 (by decide)) ?_
  refine am_aload_n (pc := 76) C dX3_copyFrom_76 rfl ?_
  refine am_getR (pc := 77) (j := 9) C dX3_copyFrom_77 f3_24 bn_4 sh_4 (rf_4_8 hR) ?_
  refine am_aload_n (pc := 80) C dX3_copyFrom_80 rfl ?_
  refine am_getR (pc := 81) (j := 62) C dX3_copyFrom_81 f3_24 bn_57 sh_57 (rf_57_8 hR) ?_
  refine am_callSNv (Y := mX11_copyRow) (pc := 84) (st := []) (As := [.ref 9, .ref 62]) (h2 := (am_row (am_row (am_row (am_row (am_row (am_row h 57 (upd (upd (upd (upd (h 57) 0 ((h 4) 0)) 1 ((h 4) 1)) 2 ((h 4) 2)) 3 ((h 4) 3))) 58 (va_cpy (h 5) (h 58) 0 0 16)) 59 (va_cpy (h 6) (h 59) 0 0 16)) 60 (va_cpy (h 7) (h 60) 0 0 16)) 61 (va_cpy (h 8) (h 61) 0 0 16)) 62 (va_cpy (h 9) (h 62) 0 0 16))) C dX3_copyFrom_84 k3_61 v_X11_copyRow rfl rfl (by decide) (Nat.zero_le _) (Nat.zero_le _) (Nat.le_of_ble_eq_true rfl) (c_X11_copyRow hR 9 62 16 bn_9 sh_9 bn_62 sh_62 (by decide)) ?_
  refine am_aload_n (pc := 87) C dX3_copyFrom_87 rfl ?_
  refine am_getR (pc := 88) (j := 10) C dX3_copyFrom_88 f3_27 bn_4 sh_4 (rf_4_9 hR) ?_
  refine am_aload_n (pc := 91) C dX3_copyFrom_91 rfl ?_
  refine am_getR (pc := 92) (j := 63) C dX3_copyFrom_92 f3_27 bn_57 sh_57 (rf_57_9 hR) ?_
  refine am_callSNv (Y := mX11_copyRow) (pc := 95) (st := []) (As := [.ref 10, .ref 63]) (h2 := (am_row (am_row (am_row (am_row (am_row (am_row (am_row h 57 (upd (upd (upd (upd (h 57) 0 ((h 4) 0)) 1 ((h 4) 1)) 2 ((h 4) 2)) 3 ((h 4) 3))) 58 (va_cpy (h 5) (h 58) 0 0 16)) 59 (va_cpy (h 6) (h 59) 0 0 16)) 60 (va_cpy (h 7) (h 60) 0 0 16)) 61 (va_cpy (h 8) (h 61) 0 0 16)) 62 (va_cpy (h 9) (h 62) 0 0 16)) 63 (va_cpy (h 10) (h 63) 0 0 10))) C dX3_copyFrom_95 k3_61 v_X11_copyRow rfl rfl (by decide) (Nat.zero_le _) (Nat.zero_le _) (Nat.le_of_ble_eq_true rfl) (c_X11_copyRow hR 10 63 10 bn_10 sh_10 bn_63 sh_63 (by decide)) ?_
  refine am_aload_n (pc := 98) C dX3_copyFrom_98 rfl ?_
  refine am_getR (pc := 99) (j := 11) C dX3_copyFrom_99 f3_30 bn_4 sh_4 (rf_4_10 hR) ?_
  refine am_aload_n (pc := 102) C dX3_copyFrom_102 rfl ?_
  refine am_getR (pc := 103) (j := 64) C dX3_copyFrom_103 f3_30 bn_57 sh_57 (rf_57_10 hR) ?_
  refine am_callSNv (Y := mX11_copyRow) (pc := 106) (st := []) (As := [.ref 11, .ref 64]) (h2 := (am_row (am_row (am_row (am_row (am_row (am_row (am_row (am_row h 57 (upd (upd (upd (upd (h 57) 0 ((h 4) 0)) 1 ((h 4) 1)) 2 ((h 4) 2)) 3 ((h 4) 3))) 58 (va_cpy (h 5) (h 58) 0 0 16)) 59 (va_cpy (h 6) (h 59) 0 0 16)) 60 (va_cpy (h 7) (h 60) 0 0 16)) 61 (va_cpy (h 8) (h 61) 0 0 16)) 62 (va_cpy (h 9) (h 62) 0 0 16)) 63 (va_cpy (h 10) (h 63) 0 0 10)) 64 (va_cpy (h 11) (h 64) 0 0 10))) C dX3_copyFrom_106 k3_61 v_X11_copyRow rfl rfl (by decide) (Nat.zero_le _) (Nat.zero_le _) (Nat.le_of_ble_eq_true rfl) (c_X11_copyRow hR 11 64 10 bn_11 sh_11 bn_64 sh_64 (by decide)) ?_
  refine am_aload_n (pc := 109) C dX3_copyFrom_109 rfl ?_
  refine am_getR (pc := 110) (j := 12) C dX3_copyFrom_110 f3_33 bn_4 sh_4 (rf_4_11 hR) ?_
  refine am_aload_n (pc := 113) C dX3_copyFrom_113 rfl ?_
  refine am_getR (pc := 114) (j := 65) C dX3_copyFrom_114 f3_33 bn_57 sh_57 (rf_57_11 hR) ?_
  refine am_callSNv (Y := mX11_copyRow) (pc := 117) (st := []) (As := [.ref 12, .ref 65]) (h2 := (am_row (am_row (am_row (am_row (am_row (am_row (am_row (am_row (am_row h 57 (upd (upd (upd (upd (h 57) 0 ((h 4) 0)) 1 ((h 4) 1)) 2 ((h 4) 2)) 3 ((h 4) 3))) 58 (va_cpy (h 5) (h 58) 0 0 16)) 59 (va_cpy (h 6) (h 59) 0 0 16)) 60 (va_cpy (h 7) (h 60) 0 0 16)) 61 (va_cpy (h 8) (h 61) 0 0 16)) 62 (va_cpy (h 9) (h 62) 0 0 16)) 63 (va_cpy (h 10) (h 63) 0 0 10)) 64 (va_cpy (h 11) (h 64) 0 0 10)) 65 (va_cpy (h 12) (h 65) 0 0 10))) C dX3_copyFrom_117 k3_61 v_X11_copyRow rfl rfl (by decide) (Nat.zero_le _) (Nat.zero_le _) (Nat.le_of_ble_eq_true rfl) (c_X11_copyRow hR 12 65 10 bn_12 sh_12 bn_65 sh_65 (by decide)) ?_
  refine am_aload_n (pc := 120) C dX3_copyFrom_120 rfl ?_
  refine am_getR (pc := 121) (j := 13) C dX3_copyFrom_121 f3_36 bn_4 sh_4 (rf_4_12 hR) ?_
  refine am_aload_n (pc := 124) C dX3_copyFrom_124 rfl ?_
  refine am_getR (pc := 125) (j := 66) C dX3_copyFrom_125 f3_36 bn_57 sh_57 (rf_57_12 hR) ?_
  refine am_callSNv (Y := mX11_copyRow) (pc := 128) (st := []) (As := [.ref 13, .ref 66]) (h2 := (am_row (am_row (am_row (am_row (am_row (am_row (am_row (am_row (am_row (am_row h 57 (upd (upd (upd (upd (h 57) 0 ((h 4) 0)) 1 ((h 4) 1)) 2 ((h 4) 2)) 3 ((h 4) 3))) 58 (va_cpy (h 5) (h 58) 0 0 16)) 59 (va_cpy (h 6) (h 59) 0 0 16)) 60 (va_cpy (h 7) (h 60) 0 0 16)) 61 (va_cpy (h 8) (h 61) 0 0 16)) 62 (va_cpy (h 9) (h 62) 0 0 16)) 63 (va_cpy (h 10) (h 63) 0 0 10)) 64 (va_cpy (h 11) (h 64) 0 0 10)) 65 (va_cpy (h 12) (h 65) 0 0 10)) 66 (va_cpy (h 13) (h 66) 0 0 60))) C dX3_copyFrom_128 k3_61 v_X11_copyRow rfl rfl (by decide) (Nat.zero_le _) (Nat.zero_le _) (Nat.le_of_ble_eq_true rfl) (c_X11_copyRow hR 13 66 60 bn_13 sh_13 bn_66 sh_66 (by decide)) ?_
  refine am_aload_n (pc := 131) C dX3_copyFrom_131 rfl ?_
  refine am_getR (pc := 132) (j := 14) C dX3_copyFrom_132 f3_39 bn_4 sh_4 (rf_4_13 hR) ?_
  refine am_aload_n (pc := 135) C dX3_copyFrom_135 rfl ?_
  refine am_getR (pc := 136) (j := 67) C dX3_copyFrom_136 f3_39 bn_57 sh_57 (rf_57_13 hR) ?_
  refine am_callSNv (Y := mX11_copyRow) (pc := 139) (st := []) (As := [.ref 14, .ref 67]) (h2 := (am_row (am_row (am_row (am_row (am_row (am_row (am_row (am_row (am_row (am_row (am_row h 57 (upd (upd (upd (upd (h 57) 0 ((h 4) 0)) 1 ((h 4) 1)) 2 ((h 4) 2)) 3 ((h 4) 3))) 58 (va_cpy (h 5) (h 58) 0 0 16)) 59 (va_cpy (h 6) (h 59) 0 0 16)) 60 (va_cpy (h 7) (h 60) 0 0 16)) 61 (va_cpy (h 8) (h 61) 0 0 16)) 62 (va_cpy (h 9) (h 62) 0 0 16)) 63 (va_cpy (h 10) (h 63) 0 0 10)) 64 (va_cpy (h 11) (h 64) 0 0 10)) 65 (va_cpy (h 12) (h 65) 0 0 10)) 66 (va_cpy (h 13) (h 66) 0 0 60)) 67 (va_cpy (h 14) (h 67) 0 0 10))) C dX3_copyFrom_139 k3_61 v_X11_copyRow rfl rfl (by decide) (Nat.zero_le _) (Nat.zero_le _) (Nat.le_of_ble_eq_true rfl) (c_X11_copyRow hR 14 67 10 bn_14 sh_14 bn_67 sh_67 (by decide)) ?_
  refine am_aload_n (pc := 142) C dX3_copyFrom_142 rfl ?_
  refine am_getR (pc := 143) (j := 15) C dX3_copyFrom_143 f3_42 bn_4 sh_4 (rf_4_14 hR) ?_
  refine am_aload_n (pc := 146) C dX3_copyFrom_146 rfl ?_
  refine am_getR (pc := 147) (j := 68) C dX3_copyFrom_147 f3_42 bn_57 sh_57 (rf_57_14 hR) ?_
  refine am_callSNv (Y := mX11_copyRow) (pc := 150) (st := []) (As := [.ref 15, .ref 68]) (h2 := (am_row (am_row (am_row (am_row (am_row (am_row (am_row (am_row (am_row (am_row (am_row (am_row h 57 (upd (upd (upd (upd (h 57) 0 ((h 4) 0)) 1 ((h 4) 1)) 2 ((h 4) 2)) 3 ((h 4) 3))) 58 (va_cpy (h 5) (h 58) 0 0 16)) 59 (va_cpy (h 6) (h 59) 0 0 16)) 60 (va_cpy (h 7) (h 60) 0 0 16)) 61 (va_cpy (h 8) (h 61) 0 0 16)) 62 (va_cpy (h 9) (h 62) 0 0 16)) 63 (va_cpy (h 10) (h 63) 0 0 10)) 64 (va_cpy (h 11) (h 64) 0 0 10)) 65 (va_cpy (h 12) (h 65) 0 0 10)) 66 (va_cpy (h 13) (h 66) 0 0 60)) 67 (va_cpy (h 14) (h 67) 0 0 10)) 68 (va_cpy (h 15) (h 68) 0 0 10))) C dX3_copyFrom_150 k3_61 v_X11_copyRow rfl rfl (by decide) (Nat.zero_le _) (Nat.zero_le _) (Nat.le_of_ble_eq_true rfl) (c_X11_copyRow hR 15 68 10 bn_15 sh_15 bn_68 sh_68 (by decide)) ?_
  refine am_aload_n (pc := 153) C dX3_copyFrom_153 rfl ?_
  refine am_getR (pc := 154) (j := 16) C dX3_copyFrom_154 f3_45 bn_4 sh_4 (rf_4_15 hR) ?_
  refine am_aload_n (pc := 157) C dX3_copyFrom_157 rfl ?_
  refine am_getR (pc := 158) (j := 69) C dX3_copyFrom_158 f3_45 bn_57 sh_57 (rf_57_15 hR) ?_
  refine am_callSNv (Y := mX11_copyRow) (pc := 161) (st := []) (As := [.ref 16, .ref 69]) (h2 := (am_row (am_row (am_row (am_row (am_row (am_row (am_row (am_row (am_row (am_row (am_row (am_row (am_row h 57 (upd (upd (upd (upd (h 57) 0 ((h 4) 0)) 1 ((h 4) 1)) 2 ((h 4) 2)) 3 ((h 4) 3))) 58 (va_cpy (h 5) (h 58) 0 0 16)) 59 (va_cpy (h 6) (h 59) 0 0 16)) 60 (va_cpy (h 7) (h 60) 0 0 16)) 61 (va_cpy (h 8) (h 61) 0 0 16)) 62 (va_cpy (h 9) (h 62) 0 0 16)) 63 (va_cpy (h 10) (h 63) 0 0 10)) 64 (va_cpy (h 11) (h 64) 0 0 10)) 65 (va_cpy (h 12) (h 65) 0 0 10)) 66 (va_cpy (h 13) (h 66) 0 0 60)) 67 (va_cpy (h 14) (h 67) 0 0 10)) 68 (va_cpy (h 15) (h 68) 0 0 10)) 69 (va_cpy (h 16) (h 69) 0 0 2))) C dX3_copyFrom_161 k3_61 v_X11_copyRow rfl rfl (by decide) (Nat.zero_le _) (Nat.zero_le _) (Nat.le_of_ble_eq_true rfl) (c_X11_copyRow hR 16 69 2 bn_16 sh_16 bn_69 sh_69 (by decide)) ?_
  exact am_vretvr T dX3_copyFrom_164 rfl (Nat.le_refl _) (Nat.le_refl _) rfl ⟨cl_Lo_cpy hV hLo rfl rfl rfl rfl (fun k hk => va_cpy_0 hk) (fun k hk => va_cpy_0 hk) (fun k hk => va_cpy_0 hk) (fun k hk => va_cpy_0 hk) (fun k hk => va_cpy_0 hk) (fun k hk => va_cpy_0 hk) (fun k hk => va_cpy_0 hk) (fun k hk => va_cpy_0 hk) (fun k hk => va_cpy_0 hk) (fun k hk => va_cpy_0 hk) (fun k hk => va_cpy_0 hk) (fun k hk => va_cpy_0 hk), (fun i9 h9 => by rw [am_row_ne _ _ _ (by omega), am_row_ne _ _ _ (by omega), am_row_ne _ _ _ (by omega), am_row_ne _ _ _ (by omega), am_row_ne _ _ _ (by omega), am_row_ne _ _ _ (by omega), am_row_ne _ _ _ (by omega), am_row_ne _ _ _ (by omega), am_row_ne _ _ _ (by omega), am_row_ne _ _ _ (by omega), am_row_ne _ _ _ (by omega), am_row_ne _ _ _ (by omega), am_row_ne _ _ _ (by omega)])⟩

set_option maxHeartbeats 400000 in
set_option maxRecDepth 100000 in
theorem c_X1_copyFrom {ad : Nat → Nat} {r : am_R} (hR : am_rs r) {h : am_H}  (w : rf_W) (hLw : rf_Lw w) (hA : cl_La (h) 17 w)  : am_CM mX1_copyFrom 3 0 0 [.ref 70, .ref 17] (am_VV ad) r h (am_pr none r (fun c9 => cl_La c9 70 w ∧ cl_fr (h) c9 70 6)) := by
  refine am_CM.of (by decide +kernel) (Nat.le_of_ble_eq_true rfl) (fun X C T => ?_)
  show am_G X (am_VV ad) (0, 0) 0 [(0, .ref 70), (1, .ref 17)] [] r h
  refine am_aload_n (pc := 0) C dX1_copyFrom_0 rfl ?_
  refine am_aload_n (pc := 1) C dX1_copyFrom_1 rfl ?_
  refine am_getI (pc := 2) C dX1_copyFrom_2 f1_9 bn_17 sh_17 ?_
  refine am_putI (pc := 5) C dX1_copyFrom_5 f1_9 bn_70 sh_70 rfl rfl ?_
  refine am_hp (show am_up h 70 0 ((h 17) 0) = am_row h 70 (upd (h 70) 0 ((h 17) 0)) from am_up_rw _ _ _ _) ?_
  refine am_aload_n (pc := 8) C dX1_copyFrom_8 rfl ?_
  refine am_aload_n (pc := 9) C dX1_copyFrom_9 rfl ?_
  refine am_getI (pc := 10) C dX1_copyFrom_10 f1_37 bn_17 sh_17 ?_
  refine am_putI (pc := 13) C dX1_copyFrom_13 f1_37 bn_70 sh_70 rfl rfl ?_
  refine am_hp (show am_up (am_row h 70 (upd (h 70) 0 ((h 17) 0))) 70 1 ((h 17) 1) = am_row (am_row h 70 (upd (h 70) 0 ((h 17) 0))) 70 (upd (upd (h 70) 0 ((h 17) 0)) 1 ((h 17) 1)) from am_up_rw _ _ _ _) ?_
  refine am_hp (show am_row (am_row h 70 (upd (h 70) 0 ((h 17) 0))) 70 (upd (upd (h 70) 0 ((h 17) 0)) 1 ((h 17) 1)) = (am_row h 70 (upd (upd (h 70) 0 ((h 17) 0)) 1 ((h 17) 1))) from am_row_s0) ?_
  refine am_aload_n (pc := 16) C dX1_copyFrom_16 rfl ?_
  refine am_getR (pc := 17) (j := 18) C dX1_copyFrom_17 f1_15 bn_17 sh_17 (rf_17_2 hR) ?_
  refine am_aload_n (pc := 20) C dX1_copyFrom_20 rfl ?_
  refine am_getR (pc := 21) (j := 71) C dX1_copyFrom_21 f1_15 bn_70 sh_70 (rf_70_2 hR) ?_
  refine am_callSNv (Y := mX11_copyRow) (pc := 24) (st := []) (As := [.ref 18, .ref 71]) (h2 := (am_row (am_row h 70 (upd (upd (h 70) 0 ((h 17) 0)) 1 ((h 17) 1))) 71 (va_cpy (h 18) (h 71) 0 0 12))) C dX1_copyFrom_24 k1_40 v_X11_copyRow rfl rfl (by decide) (Nat.zero_le _) (Nat.zero_le _) (Nat.le_of_ble_eq_true rfl) (c_X11_copyRow hR 18 71 12 bn_18 sh_18 bn_71 sh_71 (by decide)) ?_
  refine am_aload_n (pc := 27) C dX1_copyFrom_27 rfl ?_
  refine am_getR (pc := 28) (j := 19) C dX1_copyFrom_28 f1_19 bn_17 sh_17 (rf_17_3 hR) ?_
  refine am_aload_n (pc := 31) C dX1_copyFrom_31 rfl ?_
  refine am_getR (pc := 32) (j := 72) C dX1_copyFrom_32 f1_19 bn_70 sh_70 (rf_70_3 hR) ?_
  refine am_callSNv (Y := mX11_copyRow) (pc := 35) (st := []) (As := [.ref 19, .ref 72]) (h2 := (am_row (am_row (am_row h 70 (upd (upd (h 70) 0 ((h 17) 0)) 1 ((h 17) 1))) 71 (va_cpy (h 18) (h 71) 0 0 12)) 72 (va_cpy (h 19) (h 72) 0 0 12))) C dX1_copyFrom_35 k1_40 v_X11_copyRow rfl rfl (by decide) (Nat.zero_le _) (Nat.zero_le _) (Nat.le_of_ble_eq_true rfl) (c_X11_copyRow hR 19 72 12 bn_19 sh_19 bn_72 sh_72 (by decide)) ?_
  refine am_aload_n (pc := 38) C dX1_copyFrom_38 rfl ?_
  refine am_getR (pc := 39) (j := 20) C dX1_copyFrom_39 f1_22 bn_17 sh_17 (rf_17_4 hR) ?_
  refine am_aload_n (pc := 42) C dX1_copyFrom_42 rfl ?_
  refine am_getR (pc := 43) (j := 73) C dX1_copyFrom_43 f1_22 bn_70 sh_70 (rf_70_4 hR) ?_
  refine am_callSNv (Y := mX11_copyRow) (pc := 46) (st := []) (As := [.ref 20, .ref 73]) (h2 := (am_row (am_row (am_row (am_row h 70 (upd (upd (h 70) 0 ((h 17) 0)) 1 ((h 17) 1))) 71 (va_cpy (h 18) (h 71) 0 0 12)) 72 (va_cpy (h 19) (h 72) 0 0 12)) 73 (va_cpy (h 20) (h 73) 0 0 12))) C dX1_copyFrom_46 k1_40 v_X11_copyRow rfl rfl (by decide) (Nat.zero_le _) (Nat.zero_le _) (Nat.le_of_ble_eq_true rfl) (c_X11_copyRow hR 20 73 12 bn_20 sh_20 bn_73 sh_73 (by decide)) ?_
  refine am_aload_n (pc := 49) C dX1_copyFrom_49 rfl ?_
  refine am_getR (pc := 50) (j := 21) C dX1_copyFrom_50 f1_25 bn_17 sh_17 (rf_17_5 hR) ?_
  refine am_aload_n (pc := 53) C dX1_copyFrom_53 rfl ?_
  refine am_getR (pc := 54) (j := 74) C dX1_copyFrom_54 f1_25 bn_70 sh_70 (rf_70_5 hR) ?_
  refine am_callSNv (Y := mX11_copyRow) (pc := 57) (st := []) (As := [.ref 21, .ref 74]) (h2 := (am_row (am_row (am_row (am_row (am_row h 70 (upd (upd (h 70) 0 ((h 17) 0)) 1 ((h 17) 1))) 71 (va_cpy (h 18) (h 71) 0 0 12)) 72 (va_cpy (h 19) (h 72) 0 0 12)) 73 (va_cpy (h 20) (h 73) 0 0 12)) 74 (va_cpy (h 21) (h 74) 0 0 12))) C dX1_copyFrom_57 k1_40 v_X11_copyRow rfl rfl (by decide) (Nat.zero_le _) (Nat.zero_le _) (Nat.le_of_ble_eq_true rfl) (c_X11_copyRow hR 21 74 12 bn_21 sh_21 bn_74 sh_74 (by decide)) ?_
  refine am_aload_n (pc := 60) C dX1_copyFrom_60 rfl ?_
  refine am_getR (pc := 61) (j := 22) C dX1_copyFrom_61 f1_28 bn_17 sh_17 (rf_17_6 hR) ?_
  refine am_aload_n (pc := 64) C dX1_copyFrom_64 rfl ?_
  refine am_getR (pc := 65) (j := 75) C dX1_copyFrom_65 f1_28 bn_70 sh_70 (rf_70_6 hR) ?_
  refine am_callSNv (Y := mX11_copyRow) (pc := 68) (st := []) (As := [.ref 22, .ref 75]) (h2 := (am_row (am_row (am_row (am_row (am_row (am_row h 70 (upd (upd (h 70) 0 ((h 17) 0)) 1 ((h 17) 1))) 71 (va_cpy (h 18) (h 71) 0 0 12)) 72 (va_cpy (h 19) (h 72) 0 0 12)) 73 (va_cpy (h 20) (h 73) 0 0 12)) 74 (va_cpy (h 21) (h 74) 0 0 12)) 75 (va_cpy (h 22) (h 75) 0 0 400))) C dX1_copyFrom_68 k1_40 v_X11_copyRow rfl rfl (by decide) (Nat.zero_le _) (Nat.zero_le _) (Nat.le_of_ble_eq_true rfl) (c_X11_copyRow hR 22 75 400 bn_22 sh_22 bn_75 sh_75 (by decide)) ?_
  exact am_vretvr T dX1_copyFrom_71 rfl (Nat.le_refl _) (Nat.le_refl _) rfl ⟨cl_La_cpy hLw hA rfl (fun k hk => va_cpy_0 hk) (fun k hk => va_cpy_0 hk) (fun k hk => va_cpy_0 hk) (fun k hk => va_cpy_0 hk) (fun k hk => va_cpy_0 hk), (fun i9 h9 => by rw [am_row_ne _ _ _ (by omega), am_row_ne _ _ _ (by omega), am_row_ne _ _ _ (by omega), am_row_ne _ _ _ (by omega), am_row_ne _ _ _ (by omega), am_row_ne _ _ _ (by omega)])⟩

set_option maxHeartbeats 400000 in
set_option maxRecDepth 100000 in
theorem c_X5_copyFrom_d {ad : Nat → Nat} {r : am_R} (hR : am_rs r) {h : am_H}  (w : rf_W) (hV : rf_I w) (hSc : cl_Sc (h) 25 w)  : am_CM mX5_copyFrom 3 0 0 [.ref 78, .ref 25] (am_VV ad) r h (am_pr none r (fun c9 => cl_Sc c9 78 w ∧ cl_fr (h) c9 78 15)) := by
  refine am_CM.of (by decide +kernel) (Nat.le_of_ble_eq_true rfl) (fun X C T => ?_)
  show am_G X (am_VV ad) (0, 0) 0 [(0, .ref 78), (1, .ref 25)] [] r h
  refine am_aload_n (pc := 0) C dX5_copyFrom_0 rfl ?_
  refine am_aload_n (pc := 1) C dX5_copyFrom_1 rfl ?_
  refine am_getI (pc := 2) C dX5_copyFrom_2 f5_58 bn_25 sh_25 ?_
  refine am_putI (pc := 5) C dX5_copyFrom_5 f5_58 bn_78 sh_78 rfl rfl ?_
  refine am_hp (show am_up h 78 0 ((h 25) 0) = am_row h 78 (upd (h 78) 0 ((h 25) 0)) from am_up_rw _ _ _ _) ?_
  refine am_aload_n (pc := 8) C dX5_copyFrom_8 rfl ?_
  refine am_aload_n (pc := 9) C dX5_copyFrom_9 rfl ?_
  refine am_getI (pc := 10) C dX5_copyFrom_10 f5_9 bn_25 sh_25 ?_
  refine am_putI (pc := 13) C dX5_copyFrom_13 f5_9 bn_78 sh_78 rfl rfl ?_
  refine am_hp (show am_up (am_row h 78 (upd (h 78) 0 ((h 25) 0))) 78 1 ((h 25) 1) = am_row (am_row h 78 (upd (h 78) 0 ((h 25) 0))) 78 (upd (upd (h 78) 0 ((h 25) 0)) 1 ((h 25) 1)) from am_up_rw _ _ _ _) ?_
  refine am_hp (show am_row (am_row h 78 (upd (h 78) 0 ((h 25) 0))) 78 (upd (upd (h 78) 0 ((h 25) 0)) 1 ((h 25) 1)) = (am_row h 78 (upd (upd (h 78) 0 ((h 25) 0)) 1 ((h 25) 1))) from am_row_s0) ?_
  refine am_aload_n (pc := 16) C dX5_copyFrom_16 rfl ?_
  refine am_aload_n (pc := 17) C dX5_copyFrom_17 rfl ?_
  refine am_getI (pc := 18) C dX5_copyFrom_18 f5_61 bn_25 sh_25 ?_
  refine am_putI (pc := 21) C dX5_copyFrom_21 f5_61 bn_78 sh_78 rfl rfl ?_
  refine am_hp (show am_up (am_row h 78 (upd (upd (h 78) 0 ((h 25) 0)) 1 ((h 25) 1))) 78 2 ((h 25) 2) = am_row (am_row h 78 (upd (upd (h 78) 0 ((h 25) 0)) 1 ((h 25) 1))) 78 (upd (upd (upd (h 78) 0 ((h 25) 0)) 1 ((h 25) 1)) 2 ((h 25) 2)) from am_up_rw _ _ _ _) ?_
  refine am_hp (show am_row (am_row h 78 (upd (upd (h 78) 0 ((h 25) 0)) 1 ((h 25) 1))) 78 (upd (upd (upd (h 78) 0 ((h 25) 0)) 1 ((h 25) 1)) 2 ((h 25) 2)) = (am_row h 78 (upd (upd (upd (h 78) 0 ((h 25) 0)) 1 ((h 25) 1)) 2 ((h 25) 2))) from am_row_s0) ?_
  refine am_aload_n (pc := 24) C dX5_copyFrom_24 rfl ?_
  refine am_aload_n (pc := 25) C dX5_copyFrom_25 rfl ?_
  refine am_getI (pc := 26) C dX5_copyFrom_26 f5_64 bn_25 sh_25 ?_
  refine am_putI (pc := 29) C dX5_copyFrom_29 f5_64 bn_78 sh_78 rfl rfl ?_
  refine am_hp (show am_up (am_row h 78 (upd (upd (upd (h 78) 0 ((h 25) 0)) 1 ((h 25) 1)) 2 ((h 25) 2))) 78 3 ((h 25) 3) = am_row (am_row h 78 (upd (upd (upd (h 78) 0 ((h 25) 0)) 1 ((h 25) 1)) 2 ((h 25) 2))) 78 (upd (upd (upd (upd (h 78) 0 ((h 25) 0)) 1 ((h 25) 1)) 2 ((h 25) 2)) 3 ((h 25) 3)) from am_up_rw _ _ _ _) ?_
  refine am_hp (show am_row (am_row h 78 (upd (upd (upd (h 78) 0 ((h 25) 0)) 1 ((h 25) 1)) 2 ((h 25) 2))) 78 (upd (upd (upd (upd (h 78) 0 ((h 25) 0)) 1 ((h 25) 1)) 2 ((h 25) 2)) 3 ((h 25) 3)) = (am_row h 78 (upd (upd (upd (upd (h 78) 0 ((h 25) 0)) 1 ((h 25) 1)) 2 ((h 25) 2)) 3 ((h 25) 3))) from am_row_s0) ?_
  refine am_aload_n (pc := 32) C dX5_copyFrom_32 rfl ?_
  refine am_aload_n (pc := 33) C dX5_copyFrom_33 rfl ?_
  refine am_getI (pc := 34) C dX5_copyFrom_34 f5_67 bn_25 sh_25 ?_
  refine am_putI (pc := 37) C dX5_copyFrom_37 f5_67 bn_78 sh_78 rfl rfl ?_
  refine am_hp (show am_up (am_row h 78 (upd (upd (upd (upd (h 78) 0 ((h 25) 0)) 1 ((h 25) 1)) 2 ((h 25) 2)) 3 ((h 25) 3))) 78 4 ((h 25) 4) = am_row (am_row h 78 (upd (upd (upd (upd (h 78) 0 ((h 25) 0)) 1 ((h 25) 1)) 2 ((h 25) 2)) 3 ((h 25) 3))) 78 (upd (upd (upd (upd (upd (h 78) 0 ((h 25) 0)) 1 ((h 25) 1)) 2 ((h 25) 2)) 3 ((h 25) 3)) 4 ((h 25) 4)) from am_up_rw _ _ _ _) ?_
  refine am_hp (show am_row (am_row h 78 (upd (upd (upd (upd (h 78) 0 ((h 25) 0)) 1 ((h 25) 1)) 2 ((h 25) 2)) 3 ((h 25) 3))) 78 (upd (upd (upd (upd (upd (h 78) 0 ((h 25) 0)) 1 ((h 25) 1)) 2 ((h 25) 2)) 3 ((h 25) 3)) 4 ((h 25) 4)) = (am_row h 78 (upd (upd (upd (upd (upd (h 78) 0 ((h 25) 0)) 1 ((h 25) 1)) 2 ((h 25) 2)) 3 ((h 25) 3)) 4 ((h 25) 4))) from am_row_s0) ?_
  refine am_aload_n (pc := 40) C dX5_copyFrom_40 rfl ?_
  refine am_getR (pc := 41) (j := 26) C dX5_copyFrom_41 f5_15 bn_25 sh_25 (rf_25_5 hR) ?_
  refine am_aload_n (pc := 44) C dX5_copyFrom_44 rfl ?_
  refine am_getR (pc := 45) (j := 79) C dX5_copyFrom_45 f5_15 bn_78 sh_78 (rf_78_5 hR) ?_
  refine am_callSNv (Y := mX11_copyRow) (pc := 48) (st := []) (As := [.ref 26, .ref 79]) (h2 := (am_row (am_row h 78 (upd (upd (upd (upd (upd (h 78) 0 ((h 25) 0)) 1 ((h 25) 1)) 2 ((h 25) 2)) 3 ((h 25) 3)) 4 ((h 25) 4))) 79 (va_cpy (h 26) (h 79) 0 0 10))) C dX5_copyFrom_48 k5_70 v_X11_copyRow rfl rfl (by decide) (Nat.zero_le _) (Nat.zero_le _) (Nat.le_of_ble_eq_true rfl) (c_X11_copyRow hR 26 79 10 bn_26 sh_26 bn_79 sh_79 (by decide)) ?_
  refine am_aload_n (pc := 51) C dX5_copyFrom_51 rfl ?_
  refine am_getR (pc := 52) (j := 27) C dX5_copyFrom_52 f5_19 bn_25 sh_25 (rf_25_6 hR) ?_
  refine am_aload_n (pc := 55) C dX5_copyFrom_55 rfl ?_
  refine am_getR (pc := 56) (j := 80) C dX5_copyFrom_56 f5_19 bn_78 sh_78 (rf_78_6 hR) ?_
  refine am_callSNv (Y := mX11_copyRow) (pc := 59) (st := []) (As := [.ref 27, .ref 80]) (h2 := (am_row (am_row (am_row h 78 (upd (upd (upd (upd (upd (h 78) 0 ((h 25) 0)) 1 ((h 25) 1)) 2 ((h 25) 2)) 3 ((h 25) 3)) 4 ((h 25) 4))) 79 (va_cpy (h 26) (h 79) 0 0 10)) 80 (va_cpy (h 27) (h 80) 0 0 10))) C dX5_copyFrom_59 k5_70 v_X11_copyRow rfl rfl (by decide) (Nat.zero_le _) (Nat.zero_le _) (Nat.le_of_ble_eq_true rfl) (c_X11_copyRow hR 27 80 10 bn_27 sh_27 bn_80 sh_80 (by decide)) ?_
  refine am_aload_n (pc := 62) C dX5_copyFrom_62 rfl ?_
  refine am_getR (pc := 63) (j := 28) C dX5_copyFrom_63 f5_22 bn_25 sh_25 (rf_25_7 hR) ?_
  refine am_aload_n (pc := 66) C dX5_copyFrom_66 rfl ?_
  refine am_getR (pc := 67) (j := 81) C dX5_copyFrom_67 f5_22 bn_78 sh_78 (rf_78_7 hR) ?_
  refine am_callSNv (Y := mX11_copyRow) (pc := 70) (st := []) (As := [.ref 28, .ref 81]) (h2 := (am_row (am_row (am_row (am_row h 78 (upd (upd (upd (upd (upd (h 78) 0 ((h 25) 0)) 1 ((h 25) 1)) 2 ((h 25) 2)) 3 ((h 25) 3)) 4 ((h 25) 4))) 79 (va_cpy (h 26) (h 79) 0 0 10)) 80 (va_cpy (h 27) (h 80) 0 0 10)) 81 (va_cpy (h 28) (h 81) 0 0 10))) C dX5_copyFrom_70 k5_70 v_X11_copyRow rfl rfl (by decide) (Nat.zero_le _) (Nat.zero_le _) (Nat.le_of_ble_eq_true rfl) (c_X11_copyRow hR 28 81 10 bn_28 sh_28 bn_81 sh_81 (by decide)) ?_
  refine am_aload_n (pc := 73) C dX5_copyFrom_73 rfl ?_
  refine am_getR (pc := 74) (j := 29) C dX5_copyFrom_74 f5_25 bn_25 sh_25 (rf_25_8 hR) ?_
  refine am_aload_n (pc := 77) C dX5_copyFrom_77 rfl ?_
  refine am_getR (pc := 78) (j := 82) C dX5_copyFrom_78 f5_25 bn_78 sh_78 (rf_78_8 hR) ?_
  refine am_callSNv (Y := mX11_copyRow) (pc := 81) (st := []) (As := [.ref 29, .ref 82]) (h2 := (am_row (am_row (am_row (am_row (am_row h 78 (upd (upd (upd (upd (upd (h 78) 0 ((h 25) 0)) 1 ((h 25) 1)) 2 ((h 25) 2)) 3 ((h 25) 3)) 4 ((h 25) 4))) 79 (va_cpy (h 26) (h 79) 0 0 10)) 80 (va_cpy (h 27) (h 80) 0 0 10)) 81 (va_cpy (h 28) (h 81) 0 0 10)) 82 (va_cpy (h 29) (h 82) 0 0 10))) C dX5_copyFrom_81 k5_70 v_X11_copyRow rfl rfl (by decide) (Nat.zero_le _) (Nat.zero_le _) (Nat.le_of_ble_eq_true rfl) (c_X11_copyRow hR 29 82 10 bn_29 sh_29 bn_82 sh_82 (by decide)) ?_
  refine am_aload_n (pc := 84) C dX5_copyFrom_84 rfl ?_
  refine am_getR (pc := 85) (j := 30) C dX5_copyFrom_85 f5_28 bn_25 sh_25 (rf_25_9 hR) ?_
  refine am_aload_n (pc := 88) C dX5_copyFrom_88 rfl ?_
  refine am_getR (pc := 89) (j := 83) C dX5_copyFrom_89 f5_28 bn_78 sh_78 (rf_78_9 hR) ?_
  refine am_callSNv (Y := mX11_copyRow) (pc := 92) (st := []) (As := [.ref 30, .ref 83]) (h2 := (am_row (am_row (am_row (am_row (am_row (am_row h 78 (upd (upd (upd (upd (upd (h 78) 0 ((h 25) 0)) 1 ((h 25) 1)) 2 ((h 25) 2)) 3 ((h 25) 3)) 4 ((h 25) 4))) 79 (va_cpy (h 26) (h 79) 0 0 10)) 80 (va_cpy (h 27) (h 80) 0 0 10)) 81 (va_cpy (h 28) (h 81) 0 0 10)) 82 (va_cpy (h 29) (h 82) 0 0 10)) 83 (va_cpy (h 30) (h 83) 0 0 10))) C dX5_copyFrom_92 k5_70 v_X11_copyRow rfl rfl (by decide) (Nat.zero_le _) (Nat.zero_le _) (Nat.le_of_ble_eq_true rfl) (c_X11_copyRow hR 30 83 10 bn_30 sh_30 bn_83 sh_83 (by decide)) ?_
  refine am_aload_n (pc := 95) C dX5_copyFrom_95 rfl ?_
  refine am_getR (pc := 96) (j := 31) C dX5_copyFrom_96 f5_31 bn_25 sh_25 (rf_25_10 hR) ?_
  refine am_aload_n (pc := 99) C dX5_copyFrom_99 rfl ?_
  refine am_getR (pc := 100) (j := 84) C dX5_copyFrom_100 f5_31 bn_78 sh_78 (rf_78_10 hR) ?_
  refine am_callSNv (Y := mX11_copyRow) (pc := 103) (st := []) (As := [.ref 31, .ref 84]) (h2 := (am_row (am_row (am_row (am_row (am_row (am_row (am_row h 78 (upd (upd (upd (upd (upd (h 78) 0 ((h 25) 0)) 1 ((h 25) 1)) 2 ((h 25) 2)) 3 ((h 25) 3)) 4 ((h 25) 4))) 79 (va_cpy (h 26) (h 79) 0 0 10)) 80 (va_cpy (h 27) (h 80) 0 0 10)) 81 (va_cpy (h 28) (h 81) 0 0 10)) 82 (va_cpy (h 29) (h 82) 0 0 10)) 83 (va_cpy (h 30) (h 83) 0 0 10)) 84 (va_cpy (h 31) (h 84) 0 0 120))) C dX5_copyFrom_103 k5_70 v_X11_copyRow rfl rfl (by decide) (Nat.zero_le _) (Nat.zero_le _) (Nat.le_of_ble_eq_true rfl) (c_X11_copyRow hR 31 84 120 bn_31 sh_31 bn_84 sh_84 (by decide)) ?_
  refine am_aload_n (pc := 106) C dX5_copyFrom_106 rfl ?_
  refine am_getR (pc := 107) (j := 32) C dX5_copyFrom_107 f5_34 bn_25 sh_25 (rf_25_11 hR) ?_
  refine am_aload_n (pc := 110) C dX5_copyFrom_110 rfl ?_
  refine am_getR (pc := 111) (j := 85) C dX5_copyFrom_111 f5_34 bn_78 sh_78 (rf_78_11 hR) ?_
  refine am_callSNv (Y := mX11_copyRow) (pc := 114) (st := []) (As := [.ref 32, .ref 85]) (h2 := (am_row (am_row (am_row (am_row (am_row (am_row (am_row (am_row h 78 (upd (upd (upd (upd (upd (h 78) 0 ((h 25) 0)) 1 ((h 25) 1)) 2 ((h 25) 2)) 3 ((h 25) 3)) 4 ((h 25) 4))) 79 (va_cpy (h 26) (h 79) 0 0 10)) 80 (va_cpy (h 27) (h 80) 0 0 10)) 81 (va_cpy (h 28) (h 81) 0 0 10)) 82 (va_cpy (h 29) (h 82) 0 0 10)) 83 (va_cpy (h 30) (h 83) 0 0 10)) 84 (va_cpy (h 31) (h 84) 0 0 120)) 85 (va_cpy (h 32) (h 85) 0 0 40))) C dX5_copyFrom_114 k5_70 v_X11_copyRow rfl rfl (by decide) (Nat.zero_le _) (Nat.zero_le _) (Nat.le_of_ble_eq_true rfl) (c_X11_copyRow hR 32 85 40 bn_32 sh_32 bn_85 sh_85 (by decide)) ?_
  refine am_aload_n (pc := 117) C dX5_copyFrom_117 rfl ?_
  refine am_getR (pc := 118) (j := 33) C dX5_copyFrom_118 f5_37 bn_25 sh_25 (rf_25_12 hR) ?_
  refine am_aload_n (pc := 121) C dX5_copyFrom_121 rfl ?_
  refine am_getR (pc := 122) (j := 86) C dX5_copyFrom_122 f5_37 bn_78 sh_78 (rf_78_12 hR) ?_
  refine am_callSNv (Y := mX11_copyRow) (pc := 125) (st := []) (As := [.ref 33, .ref 86]) (h2 := (am_row (am_row (am_row (am_row (am_row (am_row (am_row (am_row (am_row h 78 (upd (upd (upd (upd (upd (h 78) 0 ((h 25) 0)) 1 ((h 25) 1)) 2 ((h 25) 2)) 3 ((h 25) 3)) 4 ((h 25) 4))) 79 (va_cpy (h 26) (h 79) 0 0 10)) 80 (va_cpy (h 27) (h 80) 0 0 10)) 81 (va_cpy (h 28) (h 81) 0 0 10)) 82 (va_cpy (h 29) (h 82) 0 0 10)) 83 (va_cpy (h 30) (h 83) 0 0 10)) 84 (va_cpy (h 31) (h 84) 0 0 120)) 85 (va_cpy (h 32) (h 85) 0 0 40)) 86 (va_cpy (h 33) (h 86) 0 0 40))) C dX5_copyFrom_125 k5_70 v_X11_copyRow rfl rfl (by decide) (Nat.zero_le _) (Nat.zero_le _) (Nat.le_of_ble_eq_true rfl) (c_X11_copyRow hR 33 86 40 bn_33 sh_33 bn_86 sh_86 (by decide)) ?_
  refine am_aload_n (pc := 128) C dX5_copyFrom_128 rfl ?_
  refine am_getR (pc := 129) (j := 34) C dX5_copyFrom_129 f5_40 bn_25 sh_25 (rf_25_13 hR) ?_
  refine am_aload_n (pc := 132) C dX5_copyFrom_132 rfl ?_
  refine am_getR (pc := 133) (j := 87) C dX5_copyFrom_133 f5_40 bn_78 sh_78 (rf_78_13 hR) ?_
  refine am_callSNv (Y := mX11_copyRow) (pc := 136) (st := []) (As := [.ref 34, .ref 87]) (h2 := (am_row (am_row (am_row (am_row (am_row (am_row (am_row (am_row (am_row (am_row h 78 (upd (upd (upd (upd (upd (h 78) 0 ((h 25) 0)) 1 ((h 25) 1)) 2 ((h 25) 2)) 3 ((h 25) 3)) 4 ((h 25) 4))) 79 (va_cpy (h 26) (h 79) 0 0 10)) 80 (va_cpy (h 27) (h 80) 0 0 10)) 81 (va_cpy (h 28) (h 81) 0 0 10)) 82 (va_cpy (h 29) (h 82) 0 0 10)) 83 (va_cpy (h 30) (h 83) 0 0 10)) 84 (va_cpy (h 31) (h 84) 0 0 120)) 85 (va_cpy (h 32) (h 85) 0 0 40)) 86 (va_cpy (h 33) (h 86) 0 0 40)) 87 (va_cpy (h 34) (h 87) 0 0 40))) C dX5_copyFrom_136 k5_70 v_X11_copyRow rfl rfl (by decide) (Nat.zero_le _) (Nat.zero_le _) (Nat.le_of_ble_eq_true rfl) (c_X11_copyRow hR 34 87 40 bn_34 sh_34 bn_87 sh_87 (by decide)) ?_
  refine am_aload_n (pc := 139) C dX5_copyFrom_139 rfl ?_
  refine am_getR (pc := 140) (j := 35) C dX5_copyFrom_140 f5_43 bn_25 sh_25 (rf_25_14 hR) ?_
  refine am_aload_n (pc := 143) C dX5_copyFrom_143 rfl ?_
  refine am_getR (pc := 144) (j := 88) C dX5_copyFrom_144 f5_43 bn_78 sh_78 (rf_78_14 hR) ?_
  refine am_callSNv (Y := mX11_copyRow) (pc := 147) (st := []) (As := [.ref 35, .ref 88]) (h2 := (am_row (am_row (am_row (am_row (am_row (am_row (am_row (am_row (am_row (am_row (am_row h 78 (upd (upd (upd (upd (upd (h 78) 0 ((h 25) 0)) 1 ((h 25) 1)) 2 ((h 25) 2)) 3 ((h 25) 3)) 4 ((h 25) 4))) 79 (va_cpy (h 26) (h 79) 0 0 10)) 80 (va_cpy (h 27) (h 80) 0 0 10)) 81 (va_cpy (h 28) (h 81) 0 0 10)) 82 (va_cpy (h 29) (h 82) 0 0 10)) 83 (va_cpy (h 30) (h 83) 0 0 10)) 84 (va_cpy (h 31) (h 84) 0 0 120)) 85 (va_cpy (h 32) (h 85) 0 0 40)) 86 (va_cpy (h 33) (h 86) 0 0 40)) 87 (va_cpy (h 34) (h 87) 0 0 40)) 88 (va_cpy (h 35) (h 88) 0 0 60))) C dX5_copyFrom_147 k5_70 v_X11_copyRow rfl rfl (by decide) (Nat.zero_le _) (Nat.zero_le _) (Nat.le_of_ble_eq_true rfl) (c_X11_copyRow hR 35 88 60 bn_35 sh_35 bn_88 sh_88 (by decide)) ?_
  refine am_aload_n (pc := 150) C dX5_copyFrom_150 rfl ?_
  refine am_getR (pc := 151) (j := 36) C dX5_copyFrom_151 f5_46 bn_25 sh_25 (rf_25_15 hR) ?_
  refine am_aload_n (pc := 154) C dX5_copyFrom_154 rfl ?_
  refine am_getR (pc := 155) (j := 89) C dX5_copyFrom_155 f5_46 bn_78 sh_78 (rf_78_15 hR) ?_
  refine am_callSNv (Y := mX11_copyRow) (pc := 158) (st := []) (As := [.ref 36, .ref 89]) (h2 := (am_row (am_row (am_row (am_row (am_row (am_row (am_row (am_row (am_row (am_row (am_row (am_row h 78 (upd (upd (upd (upd (upd (h 78) 0 ((h 25) 0)) 1 ((h 25) 1)) 2 ((h 25) 2)) 3 ((h 25) 3)) 4 ((h 25) 4))) 79 (va_cpy (h 26) (h 79) 0 0 10)) 80 (va_cpy (h 27) (h 80) 0 0 10)) 81 (va_cpy (h 28) (h 81) 0 0 10)) 82 (va_cpy (h 29) (h 82) 0 0 10)) 83 (va_cpy (h 30) (h 83) 0 0 10)) 84 (va_cpy (h 31) (h 84) 0 0 120)) 85 (va_cpy (h 32) (h 85) 0 0 40)) 86 (va_cpy (h 33) (h 86) 0 0 40)) 87 (va_cpy (h 34) (h 87) 0 0 40)) 88 (va_cpy (h 35) (h 88) 0 0 60)) 89 (va_cpy (h 36) (h 89) 0 0 60))) C dX5_copyFrom_158 k5_70 v_X11_copyRow rfl rfl (by decide) (Nat.zero_le _) (Nat.zero_le _) (Nat.le_of_ble_eq_true rfl) (c_X11_copyRow hR 36 89 60 bn_36 sh_36 bn_89 sh_89 (by decide)) ?_
  refine am_aload_n (pc := 161) C dX5_copyFrom_161 rfl ?_
  refine am_getR (pc := 162) (j := 37) C dX5_copyFrom_162 f5_49 bn_25 sh_25 (rf_25_16 hR) ?_
  refine am_aload_n (pc := 165) C dX5_copyFrom_165 rfl ?_
  refine am_getR (pc := 166) (j := 90) C dX5_copyFrom_166 f5_49 bn_78 sh_78 (rf_78_16 hR) ?_
  refine am_callSNv (Y := mX11_copyRow) (pc := 169) (st := []) (As := [.ref 37, .ref 90]) (h2 := (am_row (am_row (am_row (am_row (am_row (am_row (am_row (am_row (am_row (am_row (am_row (am_row (am_row h 78 (upd (upd (upd (upd (upd (h 78) 0 ((h 25) 0)) 1 ((h 25) 1)) 2 ((h 25) 2)) 3 ((h 25) 3)) 4 ((h 25) 4))) 79 (va_cpy (h 26) (h 79) 0 0 10)) 80 (va_cpy (h 27) (h 80) 0 0 10)) 81 (va_cpy (h 28) (h 81) 0 0 10)) 82 (va_cpy (h 29) (h 82) 0 0 10)) 83 (va_cpy (h 30) (h 83) 0 0 10)) 84 (va_cpy (h 31) (h 84) 0 0 120)) 85 (va_cpy (h 32) (h 85) 0 0 40)) 86 (va_cpy (h 33) (h 86) 0 0 40)) 87 (va_cpy (h 34) (h 87) 0 0 40)) 88 (va_cpy (h 35) (h 88) 0 0 60)) 89 (va_cpy (h 36) (h 89) 0 0 60)) 90 (va_cpy (h 37) (h 90) 0 0 60))) C dX5_copyFrom_169 k5_70 v_X11_copyRow rfl rfl (by decide) (Nat.zero_le _) (Nat.zero_le _) (Nat.le_of_ble_eq_true rfl) (c_X11_copyRow hR 37 90 60 bn_37 sh_37 bn_90 sh_90 (by decide)) ?_
  refine am_aload_n (pc := 172) C dX5_copyFrom_172 rfl ?_
  refine am_getR (pc := 173) (j := 38) C dX5_copyFrom_173 f5_52 bn_25 sh_25 (rf_25_17 hR) ?_
  refine am_aload_n (pc := 176) C dX5_copyFrom_176 rfl ?_
  refine am_getR (pc := 177) (j := 91) C dX5_copyFrom_177 f5_52 bn_78 sh_78 (rf_78_17 hR) ?_
  refine am_callSNv (Y := mX11_copyRow) (pc := 180) (st := []) (As := [.ref 38, .ref 91]) (h2 := (am_row (am_row (am_row (am_row (am_row (am_row (am_row (am_row (am_row (am_row (am_row (am_row (am_row (am_row h 78 (upd (upd (upd (upd (upd (h 78) 0 ((h 25) 0)) 1 ((h 25) 1)) 2 ((h 25) 2)) 3 ((h 25) 3)) 4 ((h 25) 4))) 79 (va_cpy (h 26) (h 79) 0 0 10)) 80 (va_cpy (h 27) (h 80) 0 0 10)) 81 (va_cpy (h 28) (h 81) 0 0 10)) 82 (va_cpy (h 29) (h 82) 0 0 10)) 83 (va_cpy (h 30) (h 83) 0 0 10)) 84 (va_cpy (h 31) (h 84) 0 0 120)) 85 (va_cpy (h 32) (h 85) 0 0 40)) 86 (va_cpy (h 33) (h 86) 0 0 40)) 87 (va_cpy (h 34) (h 87) 0 0 40)) 88 (va_cpy (h 35) (h 88) 0 0 60)) 89 (va_cpy (h 36) (h 89) 0 0 60)) 90 (va_cpy (h 37) (h 90) 0 0 60)) 91 (va_cpy (h 38) (h 91) 0 0 60))) C dX5_copyFrom_180 k5_70 v_X11_copyRow rfl rfl (by decide) (Nat.zero_le _) (Nat.zero_le _) (Nat.le_of_ble_eq_true rfl) (c_X11_copyRow hR 38 91 60 bn_38 sh_38 bn_91 sh_91 (by decide)) ?_
  refine am_aload_n (pc := 183) C dX5_copyFrom_183 rfl ?_
  refine am_getR (pc := 184) (j := 39) C dX5_copyFrom_184 f5_55 bn_25 sh_25 (rf_25_18 hR) ?_
  refine am_aload_n (pc := 187) C dX5_copyFrom_187 rfl ?_
  refine am_getR (pc := 188) (j := 92) C dX5_copyFrom_188 f5_55 bn_78 sh_78 (rf_78_18 hR) ?_
  refine am_callSNv (Y := mX11_copyRow) (pc := 191) (st := []) (As := [.ref 39, .ref 92]) (h2 := (am_row (am_row (am_row (am_row (am_row (am_row (am_row (am_row (am_row (am_row (am_row (am_row (am_row (am_row (am_row h 78 (upd (upd (upd (upd (upd (h 78) 0 ((h 25) 0)) 1 ((h 25) 1)) 2 ((h 25) 2)) 3 ((h 25) 3)) 4 ((h 25) 4))) 79 (va_cpy (h 26) (h 79) 0 0 10)) 80 (va_cpy (h 27) (h 80) 0 0 10)) 81 (va_cpy (h 28) (h 81) 0 0 10)) 82 (va_cpy (h 29) (h 82) 0 0 10)) 83 (va_cpy (h 30) (h 83) 0 0 10)) 84 (va_cpy (h 31) (h 84) 0 0 120)) 85 (va_cpy (h 32) (h 85) 0 0 40)) 86 (va_cpy (h 33) (h 86) 0 0 40)) 87 (va_cpy (h 34) (h 87) 0 0 40)) 88 (va_cpy (h 35) (h 88) 0 0 60)) 89 (va_cpy (h 36) (h 89) 0 0 60)) 90 (va_cpy (h 37) (h 90) 0 0 60)) 91 (va_cpy (h 38) (h 91) 0 0 60)) 92 (va_cpy (h 39) (h 92) 0 0 60))) C dX5_copyFrom_191 k5_70 v_X11_copyRow rfl rfl (by decide) (Nat.zero_le _) (Nat.zero_le _) (Nat.le_of_ble_eq_true rfl) (c_X11_copyRow hR 39 92 60 bn_39 sh_39 bn_92 sh_92 (by decide)) ?_
  exact am_vretvr T dX5_copyFrom_194 rfl (Nat.le_refl _) (Nat.le_refl _) rfl ⟨cl_Sc_cpy hV hSc rfl rfl rfl rfl rfl (fun k hk => va_cpy_0 hk) (fun k hk => va_cpy_0 hk) (fun k hk => va_cpy_0 hk) (fun k hk => va_cpy_0 hk) (fun k hk => va_cpy_0 hk) (fun k hk => va_cpy_0 hk) (fun k hk => va_cpy_0 hk) (fun k hk => va_cpy_0 hk) (fun k hk => va_cpy_0 hk) (fun k hk => va_cpy_0 hk) (fun k hk => va_cpy_0 hk) (fun k hk => va_cpy_0 hk) (fun k hk => va_cpy_0 hk) (fun k hk => va_cpy_0 hk), (fun i9 h9 => by rw [am_row_ne _ _ _ (by omega), am_row_ne _ _ _ (by omega), am_row_ne _ _ _ (by omega), am_row_ne _ _ _ (by omega), am_row_ne _ _ _ (by omega), am_row_ne _ _ _ (by omega), am_row_ne _ _ _ (by omega), am_row_ne _ _ _ (by omega), am_row_ne _ _ _ (by omega), am_row_ne _ _ _ (by omega), am_row_ne _ _ _ (by omega), am_row_ne _ _ _ (by omega), am_row_ne _ _ _ (by omega), am_row_ne _ _ _ (by omega), am_row_ne _ _ _ (by omega)])⟩

set_option maxHeartbeats 400000 in
set_option maxRecDepth 100000 in
theorem c_X10_copyFrom {ad : Nat → Nat} {r : am_R} (hR : am_rs r) {h : am_H}  (w : rf_W) (hV : rf_I w) (hLo : cl_Lo (h) 4 w) (hSc : cl_Sc (h) 25 w) (hLw : rf_Lw w) (hA : cl_La (h) 17 w)  : am_CM mX10_copyFrom 4 0 0 [.ref 56, .ref 3] (am_VV ad) r h (am_pr none r (fun c9 => cl_Lo c9 57 w ∧ cl_La c9 70 w ∧ cl_Sc c9 78 w ∧ cl_fr (h) c9 57 36)) := by
  refine am_CM.of (by decide +kernel) (Nat.le_of_ble_eq_true rfl) (fun X C T => ?_)
  show am_G X (am_VV ad) (0, 0) 0 [(0, .ref 56), (1, .ref 3)] [] r h
  refine am_aload_n (pc := 0) C dX10_copyFrom_0 rfl ?_
  refine am_getR (pc := 1) (j := 57) C dX10_copyFrom_1 f10_9 bn_56 sh_56 (rf_56_0 hR) ?_
  refine am_aload_n (pc := 4) C dX10_copyFrom_4 rfl ?_
  refine am_getR (pc := 5) (j := 4) C dX10_copyFrom_5 f10_9 bn_3 sh_3 (rf_3_0 hR) ?_
  refine am_callVvr (Y := mX3_copyFrom) (pc := 8) (st := []) (As := [.ref 4]) (PP := fun c9 => cl_Lo c9 57 w ∧ cl_fr (h) c9 57 13) C dX10_copyFrom_8 k10_26 v_X3_copyFrom rfl rfl bn_57 sh_57 ⟨by decide, rfl⟩ (by decide) (Nat.zero_le _) (Nat.zero_le _) (Nat.le_of_ble_eq_true rfl) (c_X3_copyFrom hR w (show rf_I w from hV) (show cl_Lo (h) 4 w from hLo)) (fun g8_0 hg8_0 => ?_)
  obtain ⟨L8, F8⟩ := hg8_0
  refine am_aload_n (pc := 11) C dX10_copyFrom_11 rfl ?_
  refine am_getR (pc := 12) (j := 70) C dX10_copyFrom_12 f10_15 bn_56 sh_56 (rf_56_1 hR) ?_
  refine am_aload_n (pc := 15) C dX10_copyFrom_15 rfl ?_
  refine am_getR (pc := 16) (j := 17) C dX10_copyFrom_16 f10_15 bn_3 sh_3 (rf_3_1 hR) ?_
  refine am_callVvr (Y := mX1_copyFrom) (pc := 19) (st := []) (As := [.ref 17]) (PP := fun c9 => cl_La c9 70 w ∧ cl_fr (g8_0) c9 70 6) C dX10_copyFrom_19 k10_32 v_X1_copyFrom rfl rfl bn_70 sh_70 ⟨by decide, rfl⟩ (by decide) (Nat.zero_le _) (Nat.zero_le _) (Nat.le_of_ble_eq_true rfl) (c_X1_copyFrom hR w (show rf_Lw w from hLw) (show cl_La (g8_0) 17 w from (cl_La_eq (fun i a b => F8 i (by omega)) hA))) (fun g19_1 hg19_1 => ?_)
  obtain ⟨A19, F19⟩ := hg19_1
  refine am_aload_n (pc := 22) C dX10_copyFrom_22 rfl ?_
  refine am_getR (pc := 23) (j := 78) C dX10_copyFrom_23 f10_22 bn_56 sh_56 (rf_56_2 hR) ?_
  refine am_aload_n (pc := 26) C dX10_copyFrom_26 rfl ?_
  refine am_getR (pc := 27) (j := 25) C dX10_copyFrom_27 f10_22 bn_3 sh_3 (rf_3_2 hR) ?_
  refine am_callVvr (Y := mX5_copyFrom) (pc := 30) (st := []) (As := [.ref 25]) (PP := fun c9 => cl_Sc c9 78 w ∧ cl_fr (g19_1) c9 78 15) C dX10_copyFrom_30 k10_37 v_X5_copyFrom rfl rfl bn_78 sh_78 ⟨by decide, rfl⟩ (by decide) (Nat.zero_le _) (Nat.zero_le _) (Nat.le_of_ble_eq_true rfl) (c_X5_copyFrom_d hR w (show rf_I w from hV) (show cl_Sc (g19_1) 25 w from (cl_Sc_eq (fun i a b => (F19 i (by omega)).trans (F8 i (by omega))) hSc))) (fun g30_2 hg30_2 => ?_)
  obtain ⟨S30, F30⟩ := hg30_2
  exact am_vretvr T dX10_copyFrom_33 rfl (Nat.le_refl _) (Nat.le_refl _) rfl ⟨cl_Lo_eq (fun i a b => (F30 i (by omega)).trans (F19 i (by omega))) L8, cl_La_eq (fun i a b => F30 i (by omega)) A19, S30, (fun i h9 => (F30 i (by omega)).trans ((F19 i (by omega)).trans (F8 i (by omega))))⟩

