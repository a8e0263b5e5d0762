/-! THE CLASS: rows copied -/
section M33
theorem va_cpy_0 {f g : Nat → Int32} {n k : Nat} (hk : k < n) : va_cpy f g 0 0 n k = f k := by
  rw [va_cpy, if_pos (by omega)]
  congr 1; omega
theorem cl_Sc_cpy {h h' : am_H} {b b' : Nat} {w : rf_W} (hI : rf_I w) (S : cl_Sc h b w) (f0 : h' b' 0 = h b 0) (f1 : h' b' 1 = h b 1) (f2 : h' b' 2 = h b 2) (f3 : h' b' 3 = h b 3) (f4 : h' b' 4 = h b 4)
    (e1 : ∀ k, k < 10 → h' (b' + 1) k = h (b + 1) k) (e2 : ∀ k, k < 10 → h' (b' + 2) k = h (b + 2) k) (e3 : ∀ k, k < 10 → h' (b' + 3) k = h (b + 3) k) (e4 : ∀ k, k < 10 → h' (b' + 4) k = h (b + 4) k) (e5 : ∀ k, k < 10 → h' (b' + 5) k = h (b + 5) k) (e6 : ∀ k, k < 120 → h' (b' + 6) k = h (b + 6) k)
    (e7 : ∀ k, k < 40 → h' (b' + 7) k = h (b + 7) k) (e8 : ∀ k, k < 40 → h' (b' + 8) k = h (b + 8) k) (e9 : ∀ k, k < 40 → h' (b' + 9) k = h (b + 9) k) (e10 : ∀ k, k < 60 → h' (b' + 10) k = h (b + 10) k) (e11 : ∀ k, k < 60 → h' (b' + 11) k = h (b + 11) k) (e12 : ∀ k, k < 60 → h' (b' + 12) k = h (b + 12) k) (e13 : ∀ k, k < 60 → h' (b' + 13) k = h (b + 13) k) (e14 : ∀ k, k < 60 → h' (b' + 14) k = h (b + 14) k) : cl_Sc h' b' w := by
  have hS : rf_S w < 11 := hI.1.2.1.2
  have hF : rf_F w < 41 := hI.2.2.2.2.1.2.2.1.2
  obtain ⟨s1, s2, s3, s4, s5⟩ := S
  refine ⟨⟨f0.trans s1.1, f1.trans s1.2.1, f2.trans s1.2.2.1, f3.trans s1.2.2.2.1, f4.trans s1.2.2.2.2⟩, fun s hs => ?_, fun f hf => ?_, s4, fun a ha => ?_⟩
  · obtain ⟨a1, a2, a3, a4, a5, a6⟩ := s2 s hs
    have hk : rf_kn w s < 13 := (hI.2.1 s hs).2.2.2.2.1.2
    exact ⟨(e1 s (by omega)).trans a1, (e2 s (by omega)).trans a2, (e3 s (by omega)).trans a3, (e4 s (by omega)).trans a4, (e5 s (by omega)).trans a5, fun k hk2 => (e6 _ (by omega)).trans (a6 k hk2)⟩
  · obtain ⟨a1, a2, a3⟩ := s3 f hf
    exact ⟨(e7 f (by omega)).trans a1, (e8 f (by omega)).trans a2, (e9 f (by omega)).trans a3⟩
  · obtain ⟨a1, a2, a3, a4, a5⟩ := s5 a ha
    have hr : cl_row w a < 60 := Nat.mod_lt _ (by omega)
    exact ⟨(e10 _ hr).trans a1, (e11 _ hr).trans a2, (e12 _ hr).trans a3, (e13 _ hr).trans a4, (e14 _ hr).trans a5⟩
end M33

set_option maxHeartbeats 400000 in
set_option maxRecDepth 100000 in
theorem c_X11_copyRow {ad : Nat → Nat} {r : am_R} (hR : am_rs r) {h : am_H} (a : Nat) (b : Nat) (n : Nat) (ha : a < am_NN) (sa : am_SH a = (1, n)) (hb : b < am_NN) (sb : am_SH b = (1, n)) (hn : n < 2147483648)  : am_CM mX11_copyRow 2 0 0 [.ref a, .ref b] (am_VV ad) r h (am_po none r (am_row h b (va_cpy (h a) (h b) 0 0 n))) := by
  refine am_CM.of (by decide +kernel) (Nat.le_of_ble_eq_true rfl) (fun X C T => ?_)
  show am_G X (am_VV ad) (0, 0) 0 [(0, .ref a), (1, .ref b)] [] r h
  refine am_aload_n (pc := 0) C dX11_copyRow_0 rfl ?_
  refine am_iconstN (pc := 1) (k := 0) C dX11_copyRow_1 ?_
  refine am_aload_n (pc := 2) C dX11_copyRow_2 rfl ?_
  refine am_iconstN (pc := 3) (k := 0) C dX11_copyRow_3 ?_
  refine am_aload_n (pc := 4) C dX11_copyRow_4 rfl ?_
  refine am_len1 (pc := 5) (v := nI n) C dX11_copyRow_5 ha sa rfl ?_
  refine am_aload_n (pc := 6) C dX11_copyRow_6 rfl ?_
  refine am_len1 (pc := 7) (v := nI n) C dX11_copyRow_7 hb sb rfl ?_
  refine am_callSi (Y := mJ9_min_7cf53) (pc := 8) (st := [.int (nI 0), .ref b, .int (nI 0), .ref a]) (As := [.int (nI n), .int (nI n)]) (x := (rf_min (nI n) (nI n))) (h2 := h) C dX11_copyRow_8 k11_433 v_J9_min_7cf53 rfl rfl (by decide) (Nat.zero_le _) (Nat.zero_le _) (Nat.le_of_ble_eq_true rfl) (c_J9_min_7cf53 hR (nI n) (nI n)) ?_
  refine am_top (show (rf_min (nI n) (nI n)) = (nI n) from (by first | exact congrArg nI (Nat.min_self n) | exact (rf_min_N (by omega) (by omega)).trans (congrArg nI (Nat.min_self n)))) ?_
  refine am_hp2 (h2 := (am_row h b (va_cpy (h a) (h b) 0 0 n))) (am_copyi (pc := 11) C dX11_copyRow_11 (am_mem 733 (by decide +kernel) rfl) ha sa hb sb (by omega) (by omega) hn hn (by decide) (Nat.le_of_ble_eq_true rfl)) rfl ?_
  exact am_vretv T dX11_copyRow_14 rfl (Nat.le_refl _) (Nat.le_refl _) rfl rfl

set_option maxHeartbeats 400000 in
set_option maxRecDepth 100000 in
theorem c_X5_copyFrom {ad : Nat → Nat} {r : am_R} (hR : am_rs r) {h : am_H}  (w : rf_W) (hV : rf_I w) (hSc : cl_Sc (h) 25 w)  : am_CM mX5_copyFrom 3 0 0 [.ref 41, .ref 25] (am_VV ad) r h (am_pr none r (fun c9 => cl_Sc c9 41 w ∧ cl_fr (h) c9 41 15)) := by
  refine am_CM.of (by decide +kernel) (Nat.le_of_ble_eq_true rfl) (fun X C T => ?_)
  show am_G X (am_VV ad) (0, 0) 0 [(0, .ref 41), (1, .ref 25)] [] r h
  refine am_aload_n (pc := 0) C dX5_copyFrom_0 rfl ?_
  refine am_aload_n (pc := 1) C dX5_copyFrom_1 rfl ?_
  refine am_getI (pc := 2) C dX5_copyFrom_2 f5_58 bn_25 sh_25 ?_
  refine am_putI (pc := 5) C dX5_copyFrom_5 f5_58 bn_41 sh_41 rfl rfl ?_
  refine am_hp (show am_up h 41 0 ((h 25) 0) = am_row h 41 (upd (h 41) 0 ((h 25) 0)) from am_up_rw _ _ _ _) ?_
  refine am_aload_n (pc := 8) C dX5_copyFrom_8 rfl ?_
  refine am_aload_n (pc := 9) C dX5_copyFrom_9 rfl ?_
  refine am_getI (pc := 10) C dX5_copyFrom_10 f5_9 bn_25 sh_25 ?_
  refine am_putI (pc := 13) C dX5_copyFrom_13 f5_9 bn_41 sh_41 rfl rfl ?_
  refine am_hp (show am_up (am_row h 41 (upd (h 41) 0 ((h 25) 0))) 41 1 ((h 25) 1) = am_row (am_row h 41 (upd (h 41) 0 ((h 25) 0))) 41 (upd (upd (h 41) 0 ((h 25) 0)) 1 ((h 25) 1)) from am_up_rw _ _ _ _) ?_
  refine am_hp (show am_row (am_row h 41 (upd (h 41) 0 ((h 25) 0))) 41 (upd (upd (h 41) 0 ((h 25) 0)) 1 ((h 25) 1)) = (am_row h 41 (upd (upd (h 41) 0 ((h 25) 0)) 1 ((h 25) 1))) from am_row_s0) ?_
  refine am_aload_n (pc := 16) C dX5_copyFrom_16 rfl ?_
  refine am_aload_n (pc := 17) C dX5_copyFrom_17 rfl ?_
  refine am_getI (pc := 18) C dX5_copyFrom_18 f5_61 bn_25 sh_25 ?_
  refine am_putI (pc := 21) C dX5_copyFrom_21 f5_61 bn_41 sh_41 rfl rfl ?_
  refine am_hp (show am_up (am_row h 41 (upd (upd (h 41) 0 ((h 25) 0)) 1 ((h 25) 1))) 41 2 ((h 25) 2) = am_row (am_row h 41 (upd (upd (h 41) 0 ((h 25) 0)) 1 ((h 25) 1))) 41 (upd (upd (upd (h 41) 0 ((h 25) 0)) 1 ((h 25) 1)) 2 ((h 25) 2)) from am_up_rw _ _ _ _) ?_
  refine am_hp (show am_row (am_row h 41 (upd (upd (h 41) 0 ((h 25) 0)) 1 ((h 25) 1))) 41 (upd (upd (upd (h 41) 0 ((h 25) 0)) 1 ((h 25) 1)) 2 ((h 25) 2)) = (am_row h 41 (upd (upd (upd (h 41) 0 ((h 25) 0)) 1 ((h 25) 1)) 2 ((h 25) 2))) from am_row_s0) ?_
  refine am_aload_n (pc := 24) C dX5_copyFrom_24 rfl ?_
  refine am_aload_n (pc := 25) C dX5_copyFrom_25 rfl ?_
  refine am_getI (pc := 26) C dX5_copyFrom_26 f5_64 bn_25 sh_25 ?_
  refine am_putI (pc := 29) C dX5_copyFrom_29 f5_64 bn_41 sh_41 rfl rfl ?_
  refine am_hp (show am_up (am_row h 41 (upd (upd (upd (h 41) 0 ((h 25) 0)) 1 ((h 25) 1)) 2 ((h 25) 2))) 41 3 ((h 25) 3) = am_row (am_row h 41 (upd (upd (upd (h 41) 0 ((h 25) 0)) 1 ((h 25) 1)) 2 ((h 25) 2))) 41 (upd (upd (upd (upd (h 41) 0 ((h 25) 0)) 1 ((h 25) 1)) 2 ((h 25) 2)) 3 ((h 25) 3)) from am_up_rw _ _ _ _) ?_
  refine am_hp (show am_row (am_row h 41 (upd (upd (upd (h 41) 0 ((h 25) 0)) 1 ((h 25) 1)) 2 ((h 25) 2))) 41 (upd (upd (upd (upd (h 41) 0 ((h 25) 0)) 1 ((h 25) 1)) 2 ((h 25) 2)) 3 ((h 25) 3)) = (am_row h 41 (upd (upd (upd (upd (h 41) 0 ((h 25) 0)) 1 ((h 25) 1)) 2 ((h 25) 2)) 3 ((h 25) 3))) from am_row_s0) ?_
  refine am_aload_n (pc := 32) C dX5_copyFrom_32 rfl ?_
  refine am_aload_n (pc := 33) C dX5_copyFrom_33 rfl ?_
  refine am_getI (pc := 34) C dX5_copyFrom_34 f5_67 bn_25 sh_25 ?_
  refine am_putI (pc := 37) C dX5_copyFrom_37 f5_67 bn_41 sh_41 rfl rfl ?_
  refine am_hp (show am_up (am_row h 41 (upd (upd (upd (upd (h 41) 0 ((h 25) 0)) 1 ((h 25) 1)) 2 ((h 25) 2)) 3 ((h 25) 3))) 41 4 ((h 25) 4) = am_row (am_row h 41 (upd (upd (upd (upd (h 41) 0 ((h 25) 0)) 1 ((h 25) 1)) 2 ((h 25) 2)) 3 ((h 25) 3))) 41 (upd (upd (upd (upd (upd (h 41) 0 ((h 25) 0)) 1 ((h 25) 1)) 2 ((h 25) 2)) 3 ((h 25) 3)) 4 ((h 25) 4)) from am_up_rw _ _ _ _) ?_
  refine am_hp (show am_row (am_row h 41 (upd (upd (upd (upd (h 41) 0 ((h 25) 0)) 1 ((h 25) 1)) 2 ((h 25) 2)) 3 ((h 25) 3))) 41 (upd (upd (upd (upd (upd (h 41) 0 ((h 25) 0)) 1 ((h 25) 1)) 2 ((h 25) 2)) 3 ((h 25) 3)) 4 ((h 25) 4)) = (am_row h 41 (upd (upd (upd (upd (upd (h 41) 0 ((h 25) 0)) 1 ((h 25) 1)) 2 ((h 25) 2)) 3 ((h 25) 3)) 4 ((h 25) 4))) from am_row_s0) ?_
  refine am_aload_n (pc := 40) C dX5_copyFrom_40 rfl ?_
  refine am_getR (pc := 41) (j := 26) C dX5_copyFrom_41 f5_15 bn_25 sh_25 (rf_25_5 hR) ?_
  refine am_aload_n (pc := 44) C dX5_copyFrom_44 rfl ?_
  refine am_getR (pc := 45) (j := 42) C dX5_copyFrom_45 f5_15 bn_41 sh_41 (rf_41_5 hR) ?_
  refine am_callSNv (Y := mX11_copyRow) (pc := 48) (st := []) (As := [.ref 26, .ref 42]) (h2 := (am_row (am_row h 41 (upd (upd (upd (upd (upd (h 41) 0 ((h 25) 0)) 1 ((h 25) 1)) 2 ((h 25) 2)) 3 ((h 25) 3)) 4 ((h 25) 4))) 42 (va_cpy (h 26) (h 42) 0 0 10))) C dX5_copyFrom_48 k5_70 v_X11_copyRow rfl rfl (by decide) (Nat.zero_le _) (Nat.zero_le _) (Nat.le_of_ble_eq_true rfl) (c_X11_copyRow hR 26 42 10 bn_26 sh_26 bn_42 sh_42 (by decide)) ?_
  refine am_aload_n (pc := 51) C dX5_copyFrom_51 rfl ?_
  refine am_getR (pc := 52) (j := 27) C dX5_copyFrom_52 f5_19 bn_25 sh_25 (rf_25_6 hR) ?_
  refine am_aload_n (pc := 55) C dX5_copyFrom_55 rfl ?_
  refine am_getR (pc := 56) (j := 43) C dX5_copyFrom_56 f5_19 bn_41 sh_41 (rf_41_6 hR) ?_
  refine am_callSNv (Y := mX11_copyRow) (pc := 59) (st := []) (As := [.ref 27, .ref 43]) (h2 := (am_row (am_row (am_row h 41 (upd (upd (upd (upd (upd (h 41) 0 ((h 25) 0)) 1 ((h 25) 1)) 2 ((h 25) 2)) 3 ((h 25) 3)) 4 ((h 25) 4))) 42 (va_cpy (h 26) (h 42) 0 0 10)) 43 (va_cpy (h 27) (h 43) 0 0 10))) C dX5_copyFrom_59 k5_70 v_X11_copyRow rfl rfl (by decide) (Nat.zero_le _) (Nat.zero_le _) (Nat.le_of_ble_eq_true rfl) (c_X11_copyRow hR 27 43 10 bn_27 sh_27 bn_43 sh_43 (by decide)) ?_
  refine am_aload_n (pc := 62) C dX5_copyFrom_62 rfl ?_
  refine am_getR (pc := 63) (j := 28) C dX5_copyFrom_63 f5_22 bn_25 sh_25 (rf_25_7 hR) ?_
  refine am_aload_n (pc := 66) C dX5_copyFrom_66 rfl ?_
  refine am_getR (pc := 67) (j := 44) C dX5_copyFrom_67 f5_22 bn_41 sh_41 (rf_41_7 hR) ?_
  refine am_callSNv (Y := mX11_copyRow) (pc := 70) (st := []) (As := [.ref 28, .ref 44]) (h2 := (am_row (am_row (am_row (am_row h 41 (upd (upd (upd (upd (upd (h 41) 0 ((h 25) 0)) 1 ((h 25) 1)) 2 ((h 25) 2)) 3 ((h 25) 3)) 4 ((h 25) 4))) 42 (va_cpy (h 26) (h 42) 0 0 10)) 43 (va_cpy (h 27) (h 43) 0 0 10)) 44 (va_cpy (h 28) (h 44) 0 0 10))) C dX5_copyFrom_70 k5_70 v_X11_copyRow rfl rfl (by decide) (Nat.zero_le _) (Nat.zero_le _) (Nat.le_of_ble_eq_true rfl) (c_X11_copyRow hR 28 44 10 bn_28 sh_28 bn_44 sh_44 (by decide)) ?_
  refine am_aload_n (pc := 73) C dX5_copyFrom_73 rfl ?_
  refine am_getR (pc := 74) (j := 29) C dX5_copyFrom_74 f5_25 bn_25 sh_25 (rf_25_8 hR) ?_
  refine am_aload_n (pc := 77) C dX5_copyFrom_77 rfl ?_
  refine am_getR (pc := 78) (j := 45) C dX5_copyFrom_78 f5_25 bn_41 sh_41 (rf_41_8 hR) ?_
  refine am_callSNv (Y := mX11_copyRow) (pc := 81) (st := []) (As := [.ref 29, .ref 45]) (h2 := (am_row (am_row (am_row (am_row (am_row h 41 (upd (upd (upd (upd (upd (h 41) 0 ((h 25) 0)) 1 ((h 25) 1)) 2 ((h 25) 2)) 3 ((h 25) 3)) 4 ((h 25) 4))) 42 (va_cpy (h 26) (h 42) 0 0 10)) 43 (va_cpy (h 27) (h 43) 0 0 10)) 44 (va_cpy (h 28) (h 44) 0 0 10)) 45 (va_cpy (h 29) (h 45) 0 0 10))) C dX5_copyFrom_81 k5_70 v_X11_copyRow rfl rfl (by decide) (Nat.zero_le _) (Nat.zero_le _) (Nat.le_of_ble_eq_true rfl) (c_X11_copyRow hR 29 45 10 bn_29 sh_29 bn_45 sh_45 (by decide)) ?_
  refine am_aload_n (pc := 84) C dX5_copyFrom_84 rfl ?_
  refine am_getR (pc := 85) (j := 30) C dX5_copyFrom_85 f5_28 bn_25 sh_25 (rf_25_9 hR) ?_
  refine am_aload_n (pc := 88) C dX5_copyFrom_88 rfl ?_
  refine am_getR (pc := 89) (j := 46) C dX5_copyFrom_89 f5_28 bn_41 sh_41 (rf_41_9 hR) ?_
  refine am_callSNv (Y := mX11_copyRow) (pc := 92) (st := []) (As := [.ref 30, .ref 46]) (h2 := (am_row (am_row (am_row (am_row (am_row (am_row h 41 (upd (upd (upd (upd (upd (h 41) 0 ((h 25) 0)) 1 ((h 25) 1)) 2 ((h 25) 2)) 3 ((h 25) 3)) 4 ((h 25) 4))) 42 (va_cpy (h 26) (h 42) 0 0 10)) 43 (va_cpy (h 27) (h 43) 0 0 10)) 44 (va_cpy (h 28) (h 44) 0 0 10)) 45 (va_cpy (h 29) (h 45) 0 0 10)) 46 (va_cpy (h 30) (h 46) 0 0 10))) C dX5_copyFrom_92 k5_70 v_X11_copyRow rfl rfl (by decide) (Nat.zero_le _) (Nat.zero_le _) (Nat.le_of_ble_eq_true rfl) (c_X11_copyRow hR 30 46 10 bn_30 sh_30 bn_46 sh_46 (by decide)) ?_
  refine am_aload_n (pc := 95) C dX5_copyFrom_95 rfl ?_
  refine am_getR (pc := 96) (j := 31) C dX5_copyFrom_96 f5_31 bn_25 sh_25 (rf_25_10 hR) ?_
  refine am_aload_n (pc := 99) C dX5_copyFrom_99 rfl ?_
  refine am_getR (pc := 100) (j := 47) C dX5_copyFrom_100 f5_31 bn_41 sh_41 (rf_41_10 hR) ?_
  refine am_callSNv (Y := mX11_copyRow) (pc := 103) (st := []) (As := [.ref 31, .ref 47]) (h2 := (am_row (am_row (am_row (am_row (am_row (am_row (am_row h 41 (upd (upd (upd (upd (upd (h 41) 0 ((h 25) 0)) 1 ((h 25) 1)) 2 ((h 25) 2)) 3 ((h 25) 3)) 4 ((h 25) 4))) 42 (va_cpy (h 26) (h 42) 0 0 10)) 43 (va_cpy (h 27) (h 43) 0 0 10)) 44 (va_cpy (h 28) (h 44) 0 0 10)) 45 (va_cpy (h 29) (h 45) 0 0 10)) 46 (va_cpy (h 30) (h 46) 0 0 10)) 47 (va_cpy (h 31) (h 47) 0 0 120))) C dX5_copyFrom_103 k5_70 v_X11_copyRow rfl rfl (by decide) (Nat.zero_le _) (Nat.zero_le _) (Nat.le_of_ble_eq_true rfl) (c_X11_copyRow hR 31 47 120 bn_31 sh_31 bn_47 sh_47 (by decide)) ?_
  refine am_aload_n (pc := 106) C dX5_copyFrom_106 rfl ?_
  refine am_getR (pc := 107) (j := 32) C dX5_copyFrom_107 f5_34 bn_25 sh_25 (rf_25_11 hR) ?_
  refine am_aload_n (pc := 110) C dX5_copyFrom_110 rfl ?_
  refine am_getR (pc := 111) (j := 48) C dX5_copyFrom_111 f5_34 bn_41 sh_41 (rf_41_11 hR) ?_
  refine am_callSNv (Y := mX11_copyRow) (pc := 114) (st := []) (As := [.ref 32, .ref 48]) (h2 := (am_row (am_row (am_row (am_row (am_row (am_row (am_row (am_row h 41 (upd (upd (upd (upd (upd (h 41) 0 ((h 25) 0)) 1 ((h 25) 1)) 2 ((h 25) 2)) 3 ((h 25) 3)) 4 ((h 25) 4))) 42 (va_cpy (h 26) (h 42) 0 0 10)) 43 (va_cpy (h 27) (h 43) 0 0 10)) 44 (va_cpy (h 28) (h 44) 0 0 10)) 45 (va_cpy (h 29) (h 45) 0 0 10)) 46 (va_cpy (h 30) (h 46) 0 0 10)) 47 (va_cpy (h 31) (h 47) 0 0 120)) 48 (va_cpy (h 32) (h 48) 0 0 40))) C dX5_copyFrom_114 k5_70 v_X11_copyRow rfl rfl (by decide) (Nat.zero_le _) (Nat.zero_le _) (Nat.le_of_ble_eq_true rfl) (c_X11_copyRow hR 32 48 40 bn_32 sh_32 bn_48 sh_48 (by decide)) ?_
  refine am_aload_n (pc := 117) C dX5_copyFrom_117 rfl ?_
  refine am_getR (pc := 118) (j := 33) C dX5_copyFrom_118 f5_37 bn_25 sh_25 (rf_25_12 hR) ?_
  refine am_aload_n (pc := 121) C dX5_copyFrom_121 rfl ?_
  refine am_getR (pc := 122) (j := 49) C dX5_copyFrom_122 f5_37 bn_41 sh_41 (rf_41_12 hR) ?_
  refine am_callSNv (Y := mX11_copyRow) (pc := 125) (st := []) (As := [.ref 33, .ref 49]) (h2 := (am_row (am_row (am_row (am_row (am_row (am_row (am_row (am_row (am_row h 41 (upd (upd (upd (upd (upd (h 41) 0 ((h 25) 0)) 1 ((h 25) 1)) 2 ((h 25) 2)) 3 ((h 25) 3)) 4 ((h 25) 4))) 42 (va_cpy (h 26) (h 42) 0 0 10)) 43 (va_cpy (h 27) (h 43) 0 0 10)) 44 (va_cpy (h 28) (h 44) 0 0 10)) 45 (va_cpy (h 29) (h 45) 0 0 10)) 46 (va_cpy (h 30) (h 46) 0 0 10)) 47 (va_cpy (h 31) (h 47) 0 0 120)) 48 (va_cpy (h 32) (h 48) 0 0 40)) 49 (va_cpy (h 33) (h 49) 0 0 40))) C dX5_copyFrom_125 k5_70 v_X11_copyRow rfl rfl (by decide) (Nat.zero_le _) (Nat.zero_le _) (Nat.le_of_ble_eq_true rfl) (c_X11_copyRow hR 33 49 40 bn_33 sh_33 bn_49 sh_49 (by decide)) ?_
  refine am_aload_n (pc := 128) C dX5_copyFrom_128 rfl ?_
  refine am_getR (pc := 129) (j := 34) C dX5_copyFrom_129 f5_40 bn_25 sh_25 (rf_25_13 hR) ?_
  refine am_aload_n (pc := 132) C dX5_copyFrom_132 rfl ?_
  refine am_getR (pc := 133) (j := 50) C dX5_copyFrom_133 f5_40 bn_41 sh_41 (rf_41_13 hR) ?_
  refine am_callSNv (Y := mX11_copyRow) (pc := 136) (st := []) (As := [.ref 34, .ref 50]) (h2 := (am_row (am_row (am_row (am_row (am_row (am_row (am_row (am_row (am_row (am_row h 41 (upd (upd (upd (upd (upd (h 41) 0 ((h 25) 0)) 1 ((h 25) 1)) 2 ((h 25) 2)) 3 ((h 25) 3)) 4 ((h 25) 4))) 42 (va_cpy (h 26) (h 42) 0 0 10)) 43 (va_cpy (h 27) (h 43) 0 0 10)) 44 (va_cpy (h 28) (h 44) 0 0 10)) 45 (va_cpy (h 29) (h 45) 0 0 10)) 46 (va_cpy (h 30) (h 46) 0 0 10)) 47 (va_cpy (h 31) (h 47) 0 0 120)) 48 (va_cpy (h 32) (h 48) 0 0 40)) 49 (va_cpy (h 33) (h 49) 0 0 40)) 50 (va_cpy (h 34) (h 50) 0 0 40))) C dX5_copyFrom_136 k5_70 v_X11_copyRow rfl rfl (by decide) (Nat.zero_le _) (Nat.zero_le _) (Nat.le_of_ble_eq_true rfl) (c_X11_copyRow hR 34 50 40 bn_34 sh_34 bn_50 sh_50 (by decide)) ?_
  refine am_aload_n (pc := 139) C dX5_copyFrom_139 rfl ?_
  refine am_getR (pc := 140) (j := 35) C dX5_copyFrom_140 f5_43 bn_25 sh_25 (rf_25_14 hR) ?_
  refine am_aload_n (pc := 143) C dX5_copyFrom_143 rfl ?_
  refine am_getR (pc := 144) (j := 51) C dX5_copyFrom_144 f5_43 bn_41 sh_41 (rf_41_14 hR) ?_
  refine am_callSNv (Y := mX11_copyRow) (pc := 147) (st := []) (As := [.ref 35, .ref 51]) (h2 := (am_row (am_row (am_row (am_row (am_row (am_row (am_row (am_row (am_row (am_row (am_row h 41 (upd (upd (upd (upd (upd (h 41) 0 ((h 25) 0)) 1 ((h 25) 1)) 2 ((h 25) 2)) 3 ((h 25) 3)) 4 ((h 25) 4))) 42 (va_cpy (h 26) (h 42) 0 0 10)) 43 (va_cpy (h 27) (h 43) 0 0 10)) 44 (va_cpy (h 28) (h 44) 0 0 10)) 45 (va_cpy (h 29) (h 45) 0 0 10)) 46 (va_cpy (h 30) (h 46) 0 0 10)) 47 (va_cpy (h 31) (h 47) 0 0 120)) 48 (va_cpy (h 32) (h 48) 0 0 40)) 49 (va_cpy (h 33) (h 49) 0 0 40)) 50 (va_cpy (h 34) (h 50) 0 0 40)) 51 (va_cpy (h 35) (h 51) 0 0 60))) C dX5_copyFrom_147 k5_70 v_X11_copyRow rfl rfl (by decide) (Nat.zero_le _) (Nat.zero_le _) (Nat.le_of_ble_eq_true rfl) (c_X11_copyRow hR 35 51 60 bn_35 sh_35 bn_51 sh_51 (by decide)) ?_
  refine am_aload_n (pc := 150) C dX5_copyFrom_150 rfl ?_
  refine am_getR (pc := 151) (j := 36) C dX5_copyFrom_151 f5_46 bn_25 sh_25 (rf_25_15 hR) ?_
  refine am_aload_n (pc := 154) C dX5_copyFrom_154 rfl ?_
  refine am_getR (pc := 155) (j := 52) C dX5_copyFrom_155 f5_46 bn_41 sh_41 (rf_41_15 hR) ?_
  refine am_callSNv (Y := mX11_copyRow) (pc := 158) (st := []) (As := [.ref 36, .ref 52]) (h2 := (am_row (am_row (am_row (am_row (am_row (am_row (am_row (am_row (am_row (am_row (am_row (am_row h 41 (upd (upd (upd (upd (upd (h 41) 0 ((h 25) 0)) 1 ((h 25) 1)) 2 ((h 25) 2)) 3 ((h 25) 3)) 4 ((h 25) 4))) 42 (va_cpy (h 26) (h 42) 0 0 10)) 43 (va_cpy (h 27) (h 43) 0 0 10)) 44 (va_cpy (h 28) (h 44) 0 0 10)) 45 (va_cpy (h 29) (h 45) 0 0 10)) 46 (va_cpy (h 30) (h 46) 0 0 10)) 47 (va_cpy (h 31) (h 47) 0 0 120)) 48 (va_cpy (h 32) (h 48) 0 0 40)) 49 (va_cpy (h 33) (h 49) 0 0 40)) 50 (va_cpy (h 34) (h 50) 0 0 40)) 51 (va_cpy (h 35) (h 51) 0 0 60)) 52 (va_cpy (h 36) (h 52) 0 0 60))) C dX5_copyFrom_158 k5_70 v_X11_copyRow rfl rfl (by decide) (Nat.zero_le _) (Nat.zero_le _) (Nat.le_of_ble_eq_true rfl) (c_X11_copyRow hR 36 52 60 bn_36 sh_36 bn_52 sh_52 (by decide)) ?_
  refine am_aload_n (pc := 161) C dX5_copyFrom_161 rfl ?_
  refine am_getR (pc := 162) (j := 37) C dX5_copyFrom_162 f5_49 bn_25 sh_25 (rf_25_16 hR) ?_
  refine am_aload_n (pc := 165) C dX5_copyFrom_165 rfl ?_
  refine am_getR (pc := 166) (j := 53) C dX5_copyFrom_166 f5_49 bn_41 sh_41 (rf_41_16 hR) ?_
  refine am_callSNv (Y := mX11_copyRow) (pc := 169) (st := []) (As := [.ref 37, .ref 53]) (h2 := (am_row (am_row (am_row (am_row (am_row (am_row (am_row (am_row (am_row (am_row (am_row (am_row (am_row h 41 (upd (upd (upd (upd (upd (h 41) 0 ((h 25) 0)) 1 ((h 25) 1)) 2 ((h 25) 2)) 3 ((h 25) 3)) 4 ((h 25) 4))) 42 (va_cpy (h 26) (h 42) 0 0 10)) 43 (va_cpy (h 27) (h 43) 0 0 10)) 44 (va_cpy (h 28) (h 44) 0 0 10)) 45 (va_cpy (h 29) (h 45) 0 0 10)) 46 (va_cpy (h 30) (h 46) 0 0 10)) 47 (va_cpy (h 31) (h 47) 0 0 120)) 48 (va_cpy (h 32) (h 48) 0 0 40)) 49 (va_cpy (h 33) (h 49) 0 0 40)) 50 (va_cpy (h 34) (h 50) 0 0 40)) 51 (va_cpy (h 35) (h 51) 0 0 60)) 52 (va_cpy (h 36) (h 52) 0 0 60)) 53 (va_cpy (h 37) (h 53) 0 0 60))) C dX5_copyFrom_169 k5_70 v_X11_copyRow rfl rfl (by decide) (Nat.zero_le _) (Nat.zero_le _) (Nat.le_of_ble_eq_true rfl) (c_X11_copyRow hR 37 53 60 bn_37 sh_37 bn_53 sh_53 (by decide)) ?_
  refine am_aload_n (pc := 172) C dX5_copyFrom_172 rfl ?_
  refine am_getR (pc := 173) (j := 38) C dX5_copyFrom_173 f5_52 bn_25 sh_25 (rf_25_17 hR) ?_
  refine am_aload_n (pc := 176) C dX5_copyFrom_176 rfl ?_
  refine am_getR (pc := 177) (j := 54) C dX5_copyFrom_177 f5_52 bn_41 sh_41 (rf_41_17 hR) ?_
  refine am_callSNv (Y := mX11_copyRow) (pc := 180) (st := []) (As := [.ref 38, .ref 54]) (h2 := (am_row (am_row (am_row (am_row (am_row (am_row (am_row (am_row (am_row (am_row (am_row (am_row (am_row (am_row h 41 (upd (upd (upd (upd (upd (h 41) 0 ((h 25) 0)) 1 ((h 25) 1)) 2 ((h 25) 2)) 3 ((h 25) 3)) 4 ((h 25) 4))) 42 (va_cpy (h 26) (h 42) 0 0 10)) 43 (va_cpy (h 27) (h 43) 0 0 10)) 44 (va_cpy (h 28) (h 44) 0 0 10)) 45 (va_cpy (h 29) (h 45) 0 0 10)) 46 (va_cpy (h 30) (h 46) 0 0 10)) 47 (va_cpy (h 31) (h 47) 0 0 120)) 48 (va_cpy (h 32) (h 48) 0 0 40)) 49 (va_cpy (h 33) (h 49) 0 0 40)) 50 (va_cpy (h 34) (h 50) 0 0 40)) 51 (va_cpy (h 35) (h 51) 0 0 60)) 52 (va_cpy (h 36) (h 52) 0 0 60)) 53 (va_cpy (h 37) (h 53) 0 0 60)) 54 (va_cpy (h 38) (h 54) 0 0 60))) C dX5_copyFrom_180 k5_70 v_X11_copyRow rfl rfl (by decide) (Nat.zero_le _) (Nat.zero_le _) (Nat.le_of_ble_eq_true rfl) (c_X11_copyRow hR 38 54 60 bn_38 sh_38 bn_54 sh_54 (by decide)) ?_
  refine am_aload_n (pc := 183) C dX5_copyFrom_183 rfl ?_
  refine am_getR (pc := 184) (j := 39) C dX5_copyFrom_184 f5_55 bn_25 sh_25 (rf_25_18 hR) ?_
  refine am_aload_n (pc := 187) C dX5_copyFrom_187 rfl ?_
  refine am_getR (pc := 188) (j := 55) C dX5_copyFrom_188 f5_55 bn_41 sh_41 (rf_41_18 hR) ?_
  refine am_callSNv (Y := mX11_copyRow) (pc := 191) (st := []) (As := [.ref 39, .ref 55]) (h2 := (am_row (am_row (am_row (am_row (am_row (am_row (am_row (am_row (am_row (am_row (am_row (am_row (am_row (am_row (am_row h 41 (upd (upd (upd (upd (upd (h 41) 0 ((h 25) 0)) 1 ((h 25) 1)) 2 ((h 25) 2)) 3 ((h 25) 3)) 4 ((h 25) 4))) 42 (va_cpy (h 26) (h 42) 0 0 10)) 43 (va_cpy (h 27) (h 43) 0 0 10)) 44 (va_cpy (h 28) (h 44) 0 0 10)) 45 (va_cpy (h 29) (h 45) 0 0 10)) 46 (va_cpy (h 30) (h 46) 0 0 10)) 47 (va_cpy (h 31) (h 47) 0 0 120)) 48 (va_cpy (h 32) (h 48) 0 0 40)) 49 (va_cpy (h 33) (h 49) 0 0 40)) 50 (va_cpy (h 34) (h 50) 0 0 40)) 51 (va_cpy (h 35) (h 51) 0 0 60)) 52 (va_cpy (h 36) (h 52) 0 0 60)) 53 (va_cpy (h 37) (h 53) 0 0 60)) 54 (va_cpy (h 38) (h 54) 0 0 60)) 55 (va_cpy (h 39) (h 55) 0 0 60))) C dX5_copyFrom_191 k5_70 v_X11_copyRow rfl rfl (by decide) (Nat.zero_le _) (Nat.zero_le _) (Nat.le_of_ble_eq_true rfl) (c_X11_copyRow hR 39 55 60 bn_39 sh_39 bn_55 sh_55 (by decide)) ?_
  exact am_vretvr T dX5_copyFrom_194 rfl (Nat.le_refl _) (Nat.le_refl _) rfl ⟨cl_Sc_cpy hV hSc rfl rfl rfl rfl rfl (fun k hk => va_cpy_0 hk) (fun k hk => va_cpy_0 hk) (fun k hk => va_cpy_0 hk) (fun k hk => va_cpy_0 hk) (fun k hk => va_cpy_0 hk) (fun k hk => va_cpy_0 hk) (fun k hk => va_cpy_0 hk) (fun k hk => va_cpy_0 hk) (fun k hk => va_cpy_0 hk) (fun k hk => va_cpy_0 hk) (fun k hk => va_cpy_0 hk) (fun k hk => va_cpy_0 hk) (fun k hk => va_cpy_0 hk) (fun k hk => va_cpy_0 hk), (fun i9 h9 => by rw [am_row_ne _ _ _ (by omega), am_row_ne _ _ _ (by omega), am_row_ne _ _ _ (by omega), am_row_ne _ _ _ (by omega), am_row_ne _ _ _ (by omega), am_row_ne _ _ _ (by omega), am_row_ne _ _ _ (by omega), am_row_ne _ _ _ (by omega), am_row_ne _ _ _ (by omega), am_row_ne _ _ _ (by omega), am_row_ne _ _ _ (by omega), am_row_ne _ _ _ (by omega), am_row_ne _ _ _ (by omega), am_row_ne _ _ _ (by omega), am_row_ne _ _ _ (by omega)])⟩

