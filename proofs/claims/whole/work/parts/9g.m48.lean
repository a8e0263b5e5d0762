/-! THE CLASS: memories, books, orders, plans, clashes of a war's text -/
section M48
def cl_fwt (h c : am_H) : Prop := ∀ i, i ≠ 1 ∧ i ≠ 130 ∧ (i < 57 ∨ (70 ≤ i ∧ i < 78) ∨ 93 ≤ i) → c i = h i
/-- a line has been read, or not -/
def cl_LN (h c : am_H) (t : rf_W) (x : Bool × rf_W × rf_W) : Prop := (x.1 = true → cl_to c t x.2.1 ∧ cl_Lo c 57 x.2.2 ∧ cl_Sc c 78 x.2.2) ∧ (x.1 = false → (c 1) 3 = nI (rf_b x.2.1)) ∧ cl_fwt h c
theorem cl_ndt {p : Prop} [Decidable p] (h : (!decide p) = true) : ¬ p := fun z => by rw [decide_eq_true z] at h; exact Bool.false_ne_true h
theorem cl_ndf {p : Prop} [Decidable p] (h : (!decide p) = false) : p := Classical.byContradiction (fun z => by rw [decide_eq_false z] at h; exact Bool.false_ne_true h.symm)
theorem cl_Lo_n1 {h : am_H} {b : Nat} {w : rf_W} (hV : rf_I w) (h16 : rf_M w < 16) (L : cl_Lo h b w) : rf_n ((h b) 1) 16 := by rw [L.1.2.1]; exact ⟨hV.1.1.1, h16⟩
theorem cl_Lo_n3 {h : am_H} {b : Nat} {w : rf_W} (hV : rf_I w) (h10 : rf_O w < 10) (L : cl_Lo h b w) : rf_n ((h b) 3) 10 := by rw [L.1.2.2.2]; exact ⟨hV.1.2.2.1, h10⟩
theorem cl_addMh {g : am_H} {w : rf_W} {v : Nat} {x : Int32} (hV : rf_I w) (h16 : rf_M w < 16) (hv : v < 100) (hx : am_lo x (rf_M w)) (L : cl_Lo g 57 w) (S : cl_Sc g 78 w) : ∀ H : am_H, H = (am_row (am_row (am_row (am_row (am_row (am_row g 61 (upd (cl_ar (g 61) (cl_ab (g 60) x (rf_nat ((g 57) 1))) (rf_nat ((g 57) 1)) (rf_nat ((g 57) 1))) (rf_nat ((g 57) 1)) (nI 0))) 58 (upd (g 58) (rf_nat ((g 57) 1)) (nI v))) 59 (upd (g 59) (rf_nat ((g 57) 1)) x)) 60 (upd (g 60) (rf_nat ((g 57) 1)) (cl_ab (g 60) x (rf_nat ((g 57) 1))))) 62 (upd (g 62) (rf_nat ((g 57) 1)) (nI 0))) 57 (upd (g 57) 1 (nI (rf_nat ((g 57) 1) + 1)))) → cl_Lo H 57 (rf_addM w (nI v) x) ∧ cl_Sc H 78 (rf_addM w (nI v) x) := by
  intro H hH
  have hm : rf_nat ((g 57) 1) = rf_M w := by rw [L.1.2.1]; rfl
  rw [hm] at hH
  have e0 : H 57 = upd (g 57) 1 (nI (rf_M w + 1)) := by rw [hH, am_row_at]
  have e1 : H 58 = upd (g 58) (rf_M w) (nI v) := by rw [hH, am_row_ne _ _ _ (by decide), am_row_ne _ _ _ (by decide), am_row_ne _ _ _ (by decide), am_row_ne _ _ _ (by decide), am_row_at]
  have e2 : H 59 = upd (g 59) (rf_M w) x := by rw [hH, am_row_ne _ _ _ (by decide), am_row_ne _ _ _ (by decide), am_row_ne _ _ _ (by decide), am_row_at]
  have e3 : H 60 = upd (g 60) (rf_M w) (cl_ab (g 60) x (rf_M w)) := by rw [hH, am_row_ne _ _ _ (by decide), am_row_ne _ _ _ (by decide), am_row_at]
  have e5 : H 62 = upd (g 62) (rf_M w) (nI 0) := by rw [hH, am_row_ne _ _ _ (by decide), am_row_at]
  have e4 : H 61 = upd (cl_ar (g 61) (cl_ab (g 60) x (rf_M w)) (rf_M w) (rf_M w)) (rf_M w) (nI 0) := by rw [hH, am_row_ne _ _ _ (by decide), am_row_ne _ _ _ (by decide), am_row_ne _ _ _ (by decide), am_row_ne _ _ _ (by decide), am_row_ne _ _ _ (by decide), am_row_at]
  exact cl_addM (b := 57) hV h16 hv hx L S e0 e1 e2 e3 e4 e5 (fun i a b => by rw [hH, am_row_ne _ _ _ (by omega), am_row_ne _ _ _ (by omega), am_row_ne _ _ _ (by omega), am_row_ne _ _ _ (by omega), am_row_ne _ _ _ (by omega), am_row_ne _ _ _ (by omega)])
theorem cl_orderedh {g : am_H} {w : rf_W} {z x : Int32} (hV : rf_I w) (h10 : rf_O w < 10) (L : cl_Lo g 57 w) (S : cl_Sc g 78 w) : ∀ H : am_H, H = (am_row (am_row (am_row g 67 (upd (g 67) (rf_nat ((g 57) 3)) z)) 68 (upd (g 68) (rf_nat ((g 57) 3)) x)) 57 (upd (g 57) 3 (nI (rf_nat ((g 57) 3) + 1)))) → cl_Lo H 57 (rf_ordW w z x) ∧ cl_Sc H 78 (rf_ordW w z x) := by
  intro H hH
  have hm : rf_nat ((g 57) 3) = rf_O w := by rw [L.1.2.2.2]; rfl
  rw [hm] at hH
  have e0 : H 57 = upd (g 57) 3 (nI (rf_O w + 1)) := by rw [hH, am_row_at]
  have e10 : H 67 = upd (g 67) (rf_O w) z := by rw [hH, am_row_ne _ _ _ (by decide), am_row_ne _ _ _ (by decide), am_row_at]
  have e11 : H 68 = upd (g 68) (rf_O w) x := by rw [hH, am_row_ne _ _ _ (by decide), am_row_at]
  exact cl_ordered (b := 57) hV h10 L S e0 e10 e11 (fun i a b c d => by rw [hH, am_row_ne _ _ _ (by omega), am_row_ne _ _ _ d, am_row_ne _ _ _ c])
end M48

set_option maxHeartbeats 400000 in
set_option maxRecDepth 100000 in
theorem c_X9_memoryLine {ad : Nat → Nat} {r : am_R} (hR : am_rs r) {h : am_H}  (t : rf_W) (o : rf_W) (hT : rf_To o) (K : cl_tp (h) t (rf_e o) (rf_b o)) (hs : cl_sp t (rf_e o) (rf_b o) = rf_p o) (w : rf_W) (hV : rf_I w) (hLo : cl_Lo (h) 57 w) (hSc : cl_Sc (h) 78 w)  : am_CM mX9_memoryLine 8 0 0 [.ref 130] (am_VV ad) r h (am_pr (some (.int (am_b ((rf_lnM t o w).1)))) r (fun c9 => cl_LN (h) c9 t (rf_lnM t o w))) := by
  refine am_CM.of (by decide +kernel) (Nat.le_of_ble_eq_true rfl) (fun X C T => ?_)
  show am_G X (am_VV ad) (0, 0) 0 [(0, .ref 130)] [] r h
  have hM9 : rf_M w < 17 := hV.1.1.2
  have hS9 : rf_S w < 11 := hV.1.2.1.2
  have hO9 : rf_O w < 11 := hV.1.2.2.2
  have hTn := rf_Tm_num (t := t) hT
  have hTp := rf_Tm_pas (t := t) (k := 1) hTn.1
  refine am_aload_n (pc := 0) C dX9_memoryLine_0 rfl ?_
  refine am_getR (pc := 1) (j := 57) C dX9_memoryLine_1 f9_25 bn_130 sh_130 (rf_130_2 hR) ?_
  refine am_getI (pc := 4) C dX9_memoryLine_4 f9_82 bn_57 sh_57 ?_
  refine am_top (show ((h 57) 1) = (nI (rf_M w)) from (hLo.1.2.1.trans hV.1.1.1)) ?_
  refine am_bipush (pc := 7) (v := nI 16) C dX9_memoryLine_7 (by decide) ?_
  refine am_icmp_ltN (pc := 9) (tgt := 14) C dX9_memoryLine_9 (by decide) (by omega) (by omega) (fun q9 => ?_) (fun q9 => ?_)
  · skip
    refine am_aload_n (pc := 14) C dX9_memoryLine_14 rfl ?_
    refine am_getR (pc := 15) (j := 1) C dX9_memoryLine_15 f9_9 bn_130 sh_130 (rf_130_0 hR) ?_
    refine am_callVvr (Y := mX8_advance) (pc := 18) (st := []) (As := []) (PP := fun c9 => cl_to (c9) t o ∧ cl_fr (h) c9 1 1) C dX9_memoryLine_18 k9_87 v_X8_advance rfl rfl bn_1 sh_1 ⟨by decide, rfl⟩ (by decide) (Nat.zero_le _) (Nat.zero_le _) (Nat.le_of_ble_eq_true rfl) (c_X8_adv_p (h := h) hR t o (show cl_tp (h) t (rf_e o) (rf_b o) from K) (show cl_sp t (rf_e o) (rf_b o) = rf_p o from hs) (show rf_To o from hT)) (fun g18_0 hg18_0 => ?_)
    obtain ⟨K18, F18⟩ := hg18_0
    have L18 := cl_Lo_eq (fun i a b => F18 i (by omega)) hLo
    have S18 := cl_Sc_eq (fun i a b => F18 i (by omega)) hSc
    have W18 : cl_fwt h g18_0 := fun i h9 => (F18 i (by omega)).trans rfl
    refine am_aload_n (pc := 21) C dX9_memoryLine_21 rfl ?_
    refine am_getR (pc := 22) (j := 1) C dX9_memoryLine_22 f9_9 bn_130 sh_130 (rf_130_0 hR) ?_
    refine am_iconstN (pc := 25) (k := 1) C dX9_memoryLine_25 ?_
    refine am_bipush (pc := 26) (v := nI 99) C dX9_memoryLine_26 (by decide) ?_
    refine am_callVi (Y := mX8_isNumber) (pc := 28) (st := []) (As := [.int (nI 1), .int (nI 99)]) (x := (am_b (decide (rf_rNum t o 1 (nI 99) ≠ 0)))) (h2 := g18_0) C dX9_memoryLine_28 k9_90 v_X8_isNumber rfl rfl bn_1 sh_1 ⟨by decide, rfl⟩ (by decide) (Nat.zero_le _) (Nat.zero_le _) (Nat.le_of_ble_eq_true rfl) (c_X8_isNumber_o (h := g18_0) hR 1 (nI 99) t o (show cl_to (g18_0) t o from K18) (show 1 < 1000 from (by decide))) ?_
    refine am_if_neB (pc := 31) (tgt := 36) C dX9_memoryLine_31 (by decide) (fun q31 => ?_) (fun q31 => ?_)
    · skip
      refine am_aload_n (pc := 36) C dX9_memoryLine_36 rfl ?_
      refine am_getR (pc := 37) (j := 1) C dX9_memoryLine_37 f9_9 bn_130 sh_130 (rf_130_0 hR) ?_
      refine am_getI (pc := 40) C dX9_memoryLine_40 f9_94 bn_1 sh_1 ?_
      refine am_top (show ((g18_0 1) 5) = (nI (rf_rNum t o 1 (nI 99) - 1)) from (cl_to_v K18 (by decide) (of_decide_eq_true q31))) ?_
      refine am_istore_n (pc := 43) (ls' := [(0, .ref 130), (1, .int (nI (rf_rNum t o 1 (nI 99) - 1)))]) C dX9_memoryLine_43 (by decide) rfl ?_
      refine am_iconstN (pc := 44) (k := 0) C dX9_memoryLine_44 ?_
      refine am_istore_n (pc := 45) (ls' := [(0, .ref 130), (1, .int (nI (rf_rNum t o 1 (nI 99) - 1))), (2, .int (nI 0))]) C dX9_memoryLine_45 (by decide) rfl ?_
      refine am_aload_n (pc := 46) C dX9_memoryLine_46 rfl ?_
      refine am_getR (pc := 47) (j := 1) C dX9_memoryLine_47 f9_9 bn_130 sh_130 (rf_130_0 hR) ?_
      refine am_callVvr (Y := mX8_advance) (pc := 50) (st := []) (As := []) (PP := fun c9 => cl_to (c9) t (rf_oNum t o) ∧ cl_fr (g18_0) c9 1 1) C dX9_memoryLine_50 k9_87 v_X8_advance rfl rfl bn_1 sh_1 ⟨by decide, rfl⟩ (by decide) (Nat.zero_le _) (Nat.zero_le _) (Nat.le_of_ble_eq_true rfl) (c_X8_adv_n (h := g18_0) hR t o (show cl_to (g18_0) t o from K18) (show rf_To o from hT) 1 (nI 99) (show 1 < 1000 from (by decide)) (show rf_rNum t o 1 (nI 99) ≠ 0 from (of_decide_eq_true q31))) (fun g50_1 hg50_1 => ?_)
      obtain ⟨K50, F50⟩ := hg50_1
      have L50 := cl_Lo_eq (fun i a b => F50 i (by omega)) L18
      have S50 := cl_Sc_eq (fun i a b => F50 i (by omega)) S18
      have W50 : cl_fwt h g50_1 := fun i h9 => (F50 i (by omega)).trans (W18 i h9)
      have hnb := (rf_num_le (t := t) (o := o) (low := 1) (n := 99) (by decide) (of_decide_eq_true q31)).1
      refine am_aload_n (pc := 53) C dX9_memoryLine_53 rfl ?_
      refine am_getR (pc := 54) (j := 1) C dX9_memoryLine_54 f9_9 bn_130 sh_130 (rf_130_0 hR) ?_
      refine am_ldcs (pc := 57) (k := 1) (t := "needs") C dX9_memoryLine_57 (by decide) (List.mem_of_getElem? (i := 1) rfl) ?_
      refine am_callVi (Y := mX8_says) (pc := 59) (st := []) (As := [.ref (am_SB + 1)]) (x := (am_b (rf_rPas t (rf_oNum t o) 1))) (h2 := g50_1) C dX9_memoryLine_59 k9_45 v_X8_says rfl rfl bn_1 sh_1 ⟨by decide, rfl⟩ (by decide) (Nat.zero_le _) (Nat.zero_le _) (Nat.le_of_ble_eq_true rfl) (c_X8_says_o (h := g50_1) hR 1 t (rf_oNum t o) (show cl_to (g50_1) t (rf_oNum t o) from K50) (show 1 < am_TX.length from (by decide)) (show 0 < am_len 1 from (by decide +kernel))) ?_
      refine am_if_eqB (pc := 62) (tgt := 86) C dX9_memoryLine_62 (by decide) (fun q62 => ?_) (fun q62 => ?_)
      · skip
        have hm92 := cl_Lo_n1 hV q9 L50
        have E9 : rf_lnM t o w = (true, rf_oPas t (rf_oNum t o) 1, rf_addM w (nI (rf_rNum t o 1 (nI 99) - 1)) (nI 0)) := by rw [rf_lnM, if_neg (show ¬ rf_M w = 16 by omega), if_neg (of_decide_eq_true q31), rf_needs_f q62, if_neg (show ¬ (nI 0 : Int32) < 0 by decide)]
        refine am_aload_n (pc := 86) C dX9_memoryLine_86 rfl ?_
        refine am_getR (pc := 87) (j := 57) C dX9_memoryLine_87 f9_25 bn_130 sh_130 (rf_130_2 hR) ?_
        refine am_iload_n (pc := 90) C dX9_memoryLine_90 rfl ?_
        refine am_iload_n (pc := 91) C dX9_memoryLine_91 rfl ?_
        refine am_callVv (Y := mX3_addMemory) (pc := 92) (st := []) (As := [.int (nI (rf_rNum t o 1 (nI 99) - 1)), .int (nI 0)]) (h2 := (am_row (am_row (am_row (am_row (am_row (am_row g50_1 61 (upd (cl_ar (g50_1 61) (cl_ab (g50_1 60) (nI 0) (rf_nat ((g50_1 57) 1))) (rf_nat ((g50_1 57) 1)) (rf_nat ((g50_1 57) 1))) (rf_nat ((g50_1 57) 1)) (nI 0))) 58 (upd (g50_1 58) (rf_nat ((g50_1 57) 1)) (nI (rf_rNum t o 1 (nI 99) - 1)))) 59 (upd (g50_1 59) (rf_nat ((g50_1 57) 1)) (nI 0))) 60 (upd (g50_1 60) (rf_nat ((g50_1 57) 1)) (cl_ab (g50_1 60) (nI 0) (rf_nat ((g50_1 57) 1))))) 62 (upd (g50_1 62) (rf_nat ((g50_1 57) 1)) (nI 0))) 57 (upd (g50_1 57) 1 (nI (rf_nat ((g50_1 57) 1) + 1))))) C dX9_memoryLine_92 k9_105 v_X3_addMemory rfl rfl bn_57 sh_57 ⟨by decide, rfl⟩ (by decide) (Nat.zero_le _) (Nat.zero_le _) (Nat.le_of_ble_eq_true rfl) (c_X3_addMemory_d (h := g50_1) hR (nI (rf_rNum t o 1 (nI 99) - 1)) (nI 0) (show rf_n ((g50_1 57) 1) 16 from hm92)) ?_
        refine am_iconstN (pc := 95) (k := 1) C dX9_memoryLine_95 ?_
        exact am_iretbr T dX9_memoryLine_96 rfl (Nat.le_refl _) (Nat.le_refl _) (by rw [E9]; rfl) rfl (by rw [E9]; exact ⟨fun _ => ⟨cl_to_h (by rw [am_row_ne _ _ _ (by decide), am_row_ne _ _ _ (by decide), am_row_ne _ _ _ (by decide), am_row_ne _ _ _ (by decide), am_row_ne _ _ _ (by decide), am_row_ne _ _ _ (by decide)]) (by rw [am_row_ne _ _ _ (by decide), am_row_ne _ _ _ (by decide), am_row_ne _ _ _ (by decide), am_row_ne _ _ _ (by decide), am_row_ne _ _ _ (by decide), am_row_ne _ _ _ (by decide)]) (cl_to_eq K50 rf_e_pas (rf_SB_pas_f hTn.1 q62)), cl_addMh hV q9 (by omega) (am_lo_0 _) L50 S50 _ rfl⟩, fun z => absurd z (fun y => Bool.false_ne_true y.symm), (fun i9 h9 => by rw [am_row_ne _ _ _ (by omega), am_row_ne _ _ _ (by omega), am_row_ne _ _ _ (by omega), am_row_ne _ _ _ (by omega), am_row_ne _ _ _ (by omega), am_row_ne _ _ _ (by omega)]; exact W50 i9 h9)⟩)
      · skip
        refine am_aload_n (pc := 65) C dX9_memoryLine_65 rfl ?_
        refine am_getR (pc := 66) (j := 1) C dX9_memoryLine_66 f9_9 bn_130 sh_130 (rf_130_0 hR) ?_
        refine am_callVvr (Y := mX8_advance) (pc := 69) (st := []) (As := []) (PP := fun c9 => cl_to (c9) t (rf_oPas t (rf_oNum t o) 1) ∧ cl_fr (g50_1) c9 1 1) C dX9_memoryLine_69 k9_87 v_X8_advance rfl rfl bn_1 sh_1 ⟨by decide, rfl⟩ (by decide) (Nat.zero_le _) (Nat.zero_le _) (Nat.le_of_ble_eq_true rfl) (c_X8_adv_k (h := g50_1) hR t (rf_oNum t o) (show cl_to (g50_1) t (rf_oNum t o) from K50) (show rf_To (rf_oNum t o) from hTn.1) 1 (show 0 < am_len 1 from (by decide +kernel)) (show rf_rPas t (rf_oNum t o) 1 = true from q62)) (fun g69_2 hg69_2 => ?_)
        obtain ⟨K69, F69⟩ := hg69_2
        have L69 := cl_Lo_eq (fun i a b => F69 i (by omega)) L50
        have S69 := cl_Sc_eq (fun i a b => F69 i (by omega)) S50
        have W69 : cl_fwt h g69_2 := fun i h9 => (F69 i (by omega)).trans (W50 i h9)
        refine am_aload_n (pc := 72) C dX9_memoryLine_72 rfl ?_
        refine am_callVir (Y := mX9_readSet) (pc := 73) (st := []) (As := []) (x := (am_b (!decide ((rf_mt t (rf_oPas t (rf_oNum t o) 1) w).1 < 0)))) (PP := fun c9 => cl_RS (g69_2) c9 t (rf_mt t (rf_oPas t (rf_oNum t o) 1) w)) C dX9_memoryLine_73 k9_99 v_X9_readSet rfl rfl bn_130 sh_130 ⟨by decide, rfl⟩ (by decide) (Nat.zero_le _) (Nat.zero_le _) (Nat.le_of_ble_eq_true rfl) (c_X9_readSet (h := g69_2) hR t (rf_oPas t (rf_oNum t o) 1) (show rf_To (rf_oPas t (rf_oNum t o) 1) from hTp.1) (show cl_to (g69_2) t (rf_oPas t (rf_oNum t o) 1) from K69) w (show rf_I w from hV) (show cl_Lo (g69_2) 57 w from L69)) (fun g73_3 hg73_3 => ?_)
        obtain ⟨R73, T73, F73⟩ := hg73_3
        have L73 := cl_Lo_eq (fun i a b => F73 i (by omega)) L69
        have S73 := cl_Sc_eq (fun i a b => F73 i (by omega)) S69
        have W73 : cl_fwt h g73_3 := fun i h9 => (F73 i (by omega)).trans (W69 i h9)
        refine am_if_neB (pc := 76) (tgt := 81) C dX9_memoryLine_76 (by decide) (fun q76 => ?_) (fun q76 => ?_)
        · skip
          refine am_aload_n (pc := 81) C dX9_memoryLine_81 rfl ?_
          refine am_getI (pc := 82) C dX9_memoryLine_82 f9_102 bn_130 sh_130 ?_
          refine am_top (show ((g73_3 130) 3) = ((rf_mt t (rf_oPas t (rf_oNum t o) 1) w).1) from (T73 (cl_ndt q76)).2) ?_
          refine am_istore_n (pc := 85) (ls' := [(0, .ref 130), (1, .int (nI (rf_rNum t o 1 (nI 99) - 1))), (2, .int ((rf_mt t (rf_oPas t (rf_oNum t o) 1) w).1))]) C dX9_memoryLine_85 (by decide) rfl ?_
          have hm92 := cl_Lo_n1 hV q9 L73
          have E9 : rf_lnM t o w = (true, (rf_mt t (rf_oPas t (rf_oNum t o) 1) w).2, rf_addM w (nI (rf_rNum t o 1 (nI 99) - 1)) (rf_mt t (rf_oPas t (rf_oNum t o) 1) w).1) := by rw [rf_lnM, if_neg (show ¬ rf_M w = 16 by omega), if_neg (of_decide_eq_true q31), rf_needs_t q62, if_neg (cl_ndt q76)]
          refine am_aload_n (pc := 86) C dX9_memoryLine_86 rfl ?_
          refine am_getR (pc := 87) (j := 57) C dX9_memoryLine_87 f9_25 bn_130 sh_130 (rf_130_2 hR) ?_
          refine am_iload_n (pc := 90) C dX9_memoryLine_90 rfl ?_
          refine am_iload_n (pc := 91) C dX9_memoryLine_91 rfl ?_
          refine am_callVv (Y := mX3_addMemory) (pc := 92) (st := []) (As := [.int (nI (rf_rNum t o 1 (nI 99) - 1)), .int ((rf_mt t (rf_oPas t (rf_oNum t o) 1) w).1)]) (h2 := (am_row (am_row (am_row (am_row (am_row (am_row g73_3 61 (upd (cl_ar (g73_3 61) (cl_ab (g73_3 60) ((rf_mt t (rf_oPas t (rf_oNum t o) 1) w).1) (rf_nat ((g73_3 57) 1))) (rf_nat ((g73_3 57) 1)) (rf_nat ((g73_3 57) 1))) (rf_nat ((g73_3 57) 1)) (nI 0))) 58 (upd (g73_3 58) (rf_nat ((g73_3 57) 1)) (nI (rf_rNum t o 1 (nI 99) - 1)))) 59 (upd (g73_3 59) (rf_nat ((g73_3 57) 1)) ((rf_mt t (rf_oPas t (rf_oNum t o) 1) w).1))) 60 (upd (g73_3 60) (rf_nat ((g73_3 57) 1)) (cl_ab (g73_3 60) ((rf_mt t (rf_oPas t (rf_oNum t o) 1) w).1) (rf_nat ((g73_3 57) 1))))) 62 (upd (g73_3 62) (rf_nat ((g73_3 57) 1)) (nI 0))) 57 (upd (g73_3 57) 1 (nI (rf_nat ((g73_3 57) 1) + 1))))) C dX9_memoryLine_92 k9_105 v_X3_addMemory rfl rfl bn_57 sh_57 ⟨by decide, rfl⟩ (by decide) (Nat.zero_le _) (Nat.zero_le _) (Nat.le_of_ble_eq_true rfl) (c_X3_addMemory_d (h := g73_3) hR (nI (rf_rNum t o 1 (nI 99) - 1)) ((rf_mt t (rf_oPas t (rf_oNum t o) 1) w).1) (show rf_n ((g73_3 57) 1) 16 from hm92)) ?_
          refine am_iconstN (pc := 95) (k := 1) C dX9_memoryLine_95 ?_
          exact am_iretbr T dX9_memoryLine_96 rfl (Nat.le_refl _) (Nat.le_refl _) (by rw [E9]; rfl) rfl (by rw [E9]; exact ⟨fun _ => ⟨cl_to_h (by rw [am_row_ne _ _ _ (by decide), am_row_ne _ _ _ (by decide), am_row_ne _ _ _ (by decide), am_row_ne _ _ _ (by decide), am_row_ne _ _ _ (by decide), am_row_ne _ _ _ (by decide)]) (by rw [am_row_ne _ _ _ (by decide), am_row_ne _ _ _ (by decide), am_row_ne _ _ _ (by decide), am_row_ne _ _ _ (by decide), am_row_ne _ _ _ (by decide), am_row_ne _ _ _ (by decide)]) (T73 (cl_ndt q76)).1, cl_addMh hV q9 (by omega) (rf_mt_lo hM9 (cl_ndt q76)) L73 S73 _ rfl⟩, fun z => absurd z (fun y => Bool.false_ne_true y.symm), (fun i9 h9 => by rw [am_row_ne _ _ _ (by omega), am_row_ne _ _ _ (by omega), am_row_ne _ _ _ (by omega), am_row_ne _ _ _ (by omega), am_row_ne _ _ _ (by omega), am_row_ne _ _ _ (by omega)]; exact W73 i9 h9)⟩)
        · skip
          refine am_iconstN (pc := 79) (k := 0) C dX9_memoryLine_79 ?_
          have E9 : rf_lnM t o w = (false, (rf_mt t (rf_oPas t (rf_oNum t o) 1) w).2, w) := by rw [rf_lnM, if_neg (show ¬ rf_M w = 16 by omega), if_neg (of_decide_eq_true q31), rf_needs_t q62, if_pos (cl_ndf q76)]
          exact am_iretbr T dX9_memoryLine_80 rfl (Nat.le_refl _) (Nat.le_refl _) (by rw [E9]; rfl) rfl (by rw [E9]; exact ⟨fun z => absurd z Bool.false_ne_true, fun _ => R73 (cl_ndf q76), (fun i h9 => W73 i h9)⟩)
    · skip
      refine am_iconstN (pc := 34) (k := 0) C dX9_memoryLine_34 ?_
      have E9 : rf_lnM t o w = (false, rf_oNum t o, w) := by rw [rf_lnM, if_neg (show ¬ rf_M w = 16 by omega), if_pos (Classical.not_not.mp (of_decide_eq_false q31))]
      exact am_iretbr T dX9_memoryLine_35 rfl (Nat.le_refl _) (Nat.le_refl _) (by rw [E9]; rfl) rfl (by rw [E9]; exact ⟨fun z => absurd z Bool.false_ne_true, fun _ => (cl_to_b K18).trans (congrArg nI (rf_b_num hT).symm), (fun i h9 => W18 i h9)⟩)
  · skip
    refine am_iconstN (pc := 12) (k := 0) C dX9_memoryLine_12 ?_
    have E9 : rf_lnM t o w = (false, o, w) := by rw [rf_lnM, if_pos (show rf_M w = 16 by omega)]
    exact am_iretbr T dX9_memoryLine_13 rfl (Nat.le_refl _) (Nat.le_refl _) (by rw [E9]; rfl) rfl (by rw [E9]; exact ⟨fun z => absurd z Bool.false_ne_true, fun _ => (cl_tp_b K), (fun _ _ => rfl)⟩)

set_option maxHeartbeats 400000 in
set_option maxRecDepth 100000 in
theorem c_X9_bookLine {ad : Nat → Nat} {r : am_R} (hR : am_rs r) {h : am_H}  (t : rf_W) (o : rf_W) (hT : rf_To o) (K : cl_tp (h) t (rf_e o) (rf_b o)) (hs : cl_sp t (rf_e o) (rf_b o) = rf_p o) (w : rf_W) (hV : rf_I w) (hLo : cl_Lo (h) 57 w) (hSc : cl_Sc (h) 78 w)  : am_CM mX9_bookLine 4 0 0 [.ref 130] (am_VV ad) r h (am_pr (some (.int (am_b ((rf_lnB t o w).1)))) r (fun c9 => cl_LN (h) c9 t (rf_lnB t o w))) := by
  refine am_CM.of (by decide +kernel) (Nat.le_of_ble_eq_true rfl) (fun X C T => ?_)
  show am_G X (am_VV ad) (0, 0) 0 [(0, .ref 130)] [] r h
  have hM9 : rf_M w < 17 := hV.1.1.2
  have hS9 : rf_S w < 11 := hV.1.2.1.2
  have hO9 : rf_O w < 11 := hV.1.2.2.2
  have hTn := rf_Tm_num (t := t) hT
  refine am_aload_n (pc := 0) C dX9_bookLine_0 rfl ?_
  refine am_getR (pc := 1) (j := 1) C dX9_bookLine_1 f9_9 bn_130 sh_130 (rf_130_0 hR) ?_
  refine am_callVvr (Y := mX8_advance) (pc := 4) (st := []) (As := []) (PP := fun c9 => cl_to (c9) t o ∧ cl_fr (h) c9 1 1) C dX9_bookLine_4 k9_87 v_X8_advance rfl rfl bn_1 sh_1 ⟨by decide, rfl⟩ (by decide) (Nat.zero_le _) (Nat.zero_le _) (Nat.le_of_ble_eq_true rfl) (c_X8_adv_p (h := h) hR t o (show cl_tp (h) t (rf_e o) (rf_b o) from K) (show cl_sp t (rf_e o) (rf_b o) = rf_p o from hs) (show rf_To o from hT)) (fun g4_0 hg4_0 => ?_)
  obtain ⟨K4, F4⟩ := hg4_0
  have L4 := cl_Lo_eq (fun i a b => F4 i (by omega)) hLo
  have S4 := cl_Sc_eq (fun i a b => F4 i (by omega)) hSc
  have W4 : cl_fwt h g4_0 := fun i h9 => (F4 i (by omega)).trans rfl
  refine am_aload_n (pc := 7) C dX9_bookLine_7 rfl ?_
  refine am_callVi (Y := mX9_isSoldier) (pc := 8) (st := []) (As := []) (x := (am_b (decide (rf_rS t o w ≠ 0)))) (h2 := g4_0) C dX9_bookLine_8 k9_132 v_X9_isSoldier rfl rfl bn_130 sh_130 ⟨by decide, rfl⟩ (by decide) (Nat.zero_le _) (Nat.zero_le _) (Nat.le_of_ble_eq_true rfl) (c_X9_isSoldier (h := g4_0) hR t o (show cl_to (g4_0) t o from K4) w (show rf_I w from hV) (show cl_Lo (g4_0) 57 w from L4)) ?_
  refine am_if_neB (pc := 11) (tgt := 16) C dX9_bookLine_11 (by decide) (fun q11 => ?_) (fun q11 => ?_)
  · skip
    refine am_aload_n (pc := 16) C dX9_bookLine_16 rfl ?_
    refine am_getR (pc := 17) (j := 1) C dX9_bookLine_17 f9_9 bn_130 sh_130 (rf_130_0 hR) ?_
    refine am_getI (pc := 20) C dX9_bookLine_20 f9_94 bn_1 sh_1 ?_
    refine am_top (show ((g4_0 1) 5) = (nI (rf_rS t o w - 1)) from (cl_to_v K4 (by decide) (of_decide_eq_true q11))) ?_
    refine am_istore_n (pc := 23) (ls' := [(0, .ref 130), (1, .int (nI (rf_rS t o w - 1)))]) C dX9_bookLine_23 (by decide) rfl ?_
    refine am_aload_n (pc := 24) C dX9_bookLine_24 rfl ?_
    refine am_getR (pc := 25) (j := 1) C dX9_bookLine_25 f9_9 bn_130 sh_130 (rf_130_0 hR) ?_
    refine am_callVvr (Y := mX8_advance) (pc := 28) (st := []) (As := []) (PP := fun c9 => cl_to (c9) t (rf_oNum t o) ∧ cl_fr (g4_0) c9 1 1) C dX9_bookLine_28 k9_87 v_X8_advance rfl rfl bn_1 sh_1 ⟨by decide, rfl⟩ (by decide) (Nat.zero_le _) (Nat.zero_le _) (Nat.le_of_ble_eq_true rfl) (c_X8_adv_n (h := g4_0) hR t o (show cl_to (g4_0) t o from K4) (show rf_To o from hT) 0 (nI (rf_S w) - nI 1) (show 0 < 1000 from (by decide)) (show rf_rNum t o 0 (nI (rf_S w) - nI 1) ≠ 0 from (of_decide_eq_true q11))) (fun g28_1 hg28_1 => ?_)
    obtain ⟨K28, F28⟩ := hg28_1
    have L28 := cl_Lo_eq (fun i a b => F28 i (by omega)) L4
    have S28 := cl_Sc_eq (fun i a b => F28 i (by omega)) S4
    have W28 : cl_fwt h g28_1 := fun i h9 => (F28 i (by omega)).trans (W4 i h9)
    have hrs := rf_rS_le (t := t) (o := o) hS9
    have hr0 : rf_rS t o w ≠ 0 := of_decide_eq_true q11
    refine am_aload_n (pc := 31) C dX9_bookLine_31 rfl ?_
    refine am_callVir (Y := mX9_readSet) (pc := 32) (st := []) (As := []) (x := (am_b (!decide ((rf_mt t (rf_oNum t o) w).1 < 0)))) (PP := fun c9 => cl_RS (g28_1) c9 t (rf_mt t (rf_oNum t o) w)) C dX9_bookLine_32 k9_99 v_X9_readSet rfl rfl bn_130 sh_130 ⟨by decide, rfl⟩ (by decide) (Nat.zero_le _) (Nat.zero_le _) (Nat.le_of_ble_eq_true rfl) (c_X9_readSet (h := g28_1) hR t (rf_oNum t o) (show rf_To (rf_oNum t o) from hTn.1) (show cl_to (g28_1) t (rf_oNum t o) from K28) w (show rf_I w from hV) (show cl_Lo (g28_1) 57 w from L28)) (fun g32_2 hg32_2 => ?_)
    obtain ⟨R32, T32, F32⟩ := hg32_2
    have L32 := cl_Lo_eq (fun i a b => F32 i (by omega)) L28
    have S32 := cl_Sc_eq (fun i a b => F32 i (by omega)) S28
    have W32 : cl_fwt h g32_2 := fun i h9 => (F32 i (by omega)).trans (W28 i h9)
    refine am_if_neB (pc := 35) (tgt := 40) C dX9_bookLine_35 (by decide) (fun q35 => ?_) (fun q35 => ?_)
    · skip
      refine am_aload_n (pc := 40) C dX9_bookLine_40 rfl ?_
      refine am_getR (pc := 41) (j := 57) C dX9_bookLine_41 f9_25 bn_130 sh_130 (rf_130_2 hR) ?_
      refine am_getR (pc := 44) (j := 64) C dX9_bookLine_44 f9_126 bn_57 sh_57 (rf_57_10 hR) ?_
      refine am_iload_n (pc := 47) C dX9_bookLine_47 rfl ?_
      refine am_aload_n (pc := 48) C dX9_bookLine_48 rfl ?_
      refine am_getR (pc := 49) (j := 57) C dX9_bookLine_49 f9_25 bn_130 sh_130 (rf_130_2 hR) ?_
      refine am_getR (pc := 52) (j := 64) C dX9_bookLine_52 f9_126 bn_57 sh_57 (rf_57_10 hR) ?_
      refine am_iload_n (pc := 55) C dX9_bookLine_55 rfl ?_
      refine am_callSNi (Y := mX11_pick) (pc := 56) (st := [.int (nI (rf_rS t o w - 1)), .ref 64]) (As := [.ref 64, .int (nI (rf_rS t o w - 1))]) (x := ((g32_2 64) (rf_rS t o w - 1))) (h2 := g32_2) C dX9_bookLine_56 k9_144 v_X11_pick rfl rfl (by decide) (Nat.zero_le _) (Nat.zero_le _) (Nat.le_of_ble_eq_true rfl) (c_X11_pick 64 (rf_rS t o w - 1) 10 bn_64 sh_64 (show rf_rS t o w - 1 < 10 from (by omega)) (by decide)) ?_
      refine am_aload_n (pc := 59) C dX9_bookLine_59 rfl ?_
      refine am_getI (pc := 60) C dX9_bookLine_60 f9_102 bn_130 sh_130 ?_
      refine am_top (show ((g32_2 130) 3) = ((rf_mt t (rf_oNum t o) w).1) from (T32 (cl_ndt q35)).2) ?_
      refine am_ior (pc := 63) C dX9_bookLine_63 ?_
      refine am_callSNv (Y := mX11_put) (pc := 64) (st := []) (As := [.ref 64, .int (nI (rf_rS t o w - 1)), .int (((g32_2 64) (rf_rS t o w - 1)) ||| ((rf_mt t (rf_oNum t o) w).1))]) (h2 := (am_row g32_2 64 (upd (g32_2 64) (rf_rS t o w - 1) (((g32_2 64) (rf_rS t o w - 1)) ||| ((rf_mt t (rf_oNum t o) w).1))))) C dX9_bookLine_64 k9_116 v_X11_put rfl rfl (by decide) (Nat.zero_le _) (Nat.zero_le _) (Nat.le_of_ble_eq_true rfl) (c_X11_put 64 (rf_rS t o w - 1) (((g32_2 64) (rf_rS t o w - 1)) ||| ((rf_mt t (rf_oNum t o) w).1)) 10 bn_64 sh_64 (show rf_rS t o w - 1 < 10 from (by omega)) (by decide)) ?_
      refine am_iconstN (pc := 67) (k := 1) C dX9_bookLine_67 ?_
      have E9 : rf_lnB t o w = (true, (rf_mt t (rf_oNum t o) w).2, upd w (61 + 23 * (rf_rS t o w - 1) + 22) (rf_of w (rf_rS t o w - 1) 22 ||| (rf_mt t (rf_oNum t o) w).1)) := by rw [rf_lnB, if_neg hr0, if_neg (cl_ndt q35)]
      exact am_iretbr T dX9_bookLine_68 rfl (Nat.le_refl _) (Nat.le_refl _) (by rw [E9]; rfl) rfl (by rw [E9]; exact ⟨fun _ => ⟨cl_to_h (am_row_ne _ _ _ (by decide)) (am_row_ne _ _ _ (by decide)) (T32 (cl_ndt q35)).1, cl_booked (b := 57) hV (by omega) L32 S32 (by rw [am_row_at]) (fun i a b c => am_row_ne _ _ _ c)⟩, fun z => absurd z (fun y => Bool.false_ne_true y.symm), (fun i9 h9 => by rw [am_row_ne _ _ _ (by omega)]; exact W32 i9 h9)⟩)
    · skip
      refine am_iconstN (pc := 38) (k := 0) C dX9_bookLine_38 ?_
      have E9 : rf_lnB t o w = (false, (rf_mt t (rf_oNum t o) w).2, w) := by rw [rf_lnB, if_neg hr0, if_pos (cl_ndf q35)]
      exact am_iretbr T dX9_bookLine_39 rfl (Nat.le_refl _) (Nat.le_refl _) (by rw [E9]; rfl) rfl (by rw [E9]; exact ⟨fun z => absurd z Bool.false_ne_true, fun _ => R32 (cl_ndf q35), (fun i h9 => W32 i h9)⟩)
  · skip
    refine am_iconstN (pc := 14) (k := 0) C dX9_bookLine_14 ?_
    have E9 : rf_lnB t o w = (false, rf_oNum t o, w) := by rw [rf_lnB, if_pos (Classical.not_not.mp (of_decide_eq_false q11))]
    exact am_iretbr T dX9_bookLine_15 rfl (Nat.le_refl _) (Nat.le_refl _) (by rw [E9]; rfl) rfl (by rw [E9]; exact ⟨fun z => absurd z Bool.false_ne_true, fun _ => (cl_to_b K4).trans (congrArg nI (rf_b_num hT).symm), (fun i h9 => W4 i h9)⟩)

set_option maxHeartbeats 400000 in
set_option maxRecDepth 100000 in
theorem c_X9_orderLine {ad : Nat → Nat} {r : am_R} (hR : am_rs r) {h : am_H}  (t : rf_W) (o : rf_W) (hT : rf_To o) (K : cl_tp (h) t (rf_e o) (rf_b o)) (hs : cl_sp t (rf_e o) (rf_b o) = rf_p o) (w : rf_W) (hV : rf_I w) (hLo : cl_Lo (h) 57 w) (hSc : cl_Sc (h) 78 w)  : am_CM mX9_orderLine 4 0 0 [.ref 130] (am_VV ad) r h (am_pr (some (.int (am_b ((rf_lnO t o w).1)))) r (fun c9 => cl_LN (h) c9 t (rf_lnO t o w))) := by
  refine am_CM.of (by decide +kernel) (Nat.le_of_ble_eq_true rfl) (fun X C T => ?_)
  show am_G X (am_VV ad) (0, 0) 0 [(0, .ref 130)] [] r h
  have hM9 : rf_M w < 17 := hV.1.1.2
  have hS9 : rf_S w < 11 := hV.1.2.1.2
  have hO9 : rf_O w < 11 := hV.1.2.2.2
  have hTn := rf_Tm_num (t := t) hT
  refine am_aload_n (pc := 0) C dX9_orderLine_0 rfl ?_
  refine am_getR (pc := 1) (j := 57) C dX9_orderLine_1 f9_25 bn_130 sh_130 (rf_130_2 hR) ?_
  refine am_getI (pc := 4) C dX9_orderLine_4 f9_148 bn_57 sh_57 ?_
  refine am_top (show ((h 57) 3) = (nI (rf_O w)) from (hLo.1.2.2.2.trans hV.1.2.2.1)) ?_
  refine am_bipush (pc := 7) (v := nI 10) C dX9_orderLine_7 (by decide) ?_
  refine am_icmp_ltN (pc := 9) (tgt := 14) C dX9_orderLine_9 (by decide) (by omega) (by omega) (fun q9 => ?_) (fun q9 => ?_)
  · skip
    refine am_aload_n (pc := 14) C dX9_orderLine_14 rfl ?_
    refine am_getR (pc := 15) (j := 1) C dX9_orderLine_15 f9_9 bn_130 sh_130 (rf_130_0 hR) ?_
    refine am_callVvr (Y := mX8_advance) (pc := 18) (st := []) (As := []) (PP := fun c9 => cl_to (c9) t o ∧ cl_fr (h) c9 1 1) C dX9_orderLine_18 k9_87 v_X8_advance rfl rfl bn_1 sh_1 ⟨by decide, rfl⟩ (by decide) (Nat.zero_le _) (Nat.zero_le _) (Nat.le_of_ble_eq_true rfl) (c_X8_adv_p (h := h) hR t o (show cl_tp (h) t (rf_e o) (rf_b o) from K) (show cl_sp t (rf_e o) (rf_b o) = rf_p o from hs) (show rf_To o from hT)) (fun g18_0 hg18_0 => ?_)
    obtain ⟨K18, F18⟩ := hg18_0
    have L18 := cl_Lo_eq (fun i a b => F18 i (by omega)) hLo
    have S18 := cl_Sc_eq (fun i a b => F18 i (by omega)) hSc
    have W18 : cl_fwt h g18_0 := fun i h9 => (F18 i (by omega)).trans rfl
    refine am_aload_n (pc := 21) C dX9_orderLine_21 rfl ?_
    refine am_callVi (Y := mX9_isSoldier) (pc := 22) (st := []) (As := []) (x := (am_b (decide (rf_rS t o w ≠ 0)))) (h2 := g18_0) C dX9_orderLine_22 k9_132 v_X9_isSoldier rfl rfl bn_130 sh_130 ⟨by decide, rfl⟩ (by decide) (Nat.zero_le _) (Nat.zero_le _) (Nat.le_of_ble_eq_true rfl) (c_X9_isSoldier (h := g18_0) hR t o (show cl_to (g18_0) t o from K18) w (show rf_I w from hV) (show cl_Lo (g18_0) 57 w from L18)) ?_
    refine am_if_neB (pc := 25) (tgt := 30) C dX9_orderLine_25 (by decide) (fun q25 => ?_) (fun q25 => ?_)
    · skip
      refine am_aload_n (pc := 30) C dX9_orderLine_30 rfl ?_
      refine am_getR (pc := 31) (j := 1) C dX9_orderLine_31 f9_9 bn_130 sh_130 (rf_130_0 hR) ?_
      refine am_getI (pc := 34) C dX9_orderLine_34 f9_94 bn_1 sh_1 ?_
      refine am_top (show ((g18_0 1) 5) = (nI (rf_rS t o w - 1)) from (cl_to_v K18 (by decide) (of_decide_eq_true q25))) ?_
      refine am_istore_n (pc := 37) (ls' := [(0, .ref 130), (1, .int (nI (rf_rS t o w - 1)))]) C dX9_orderLine_37 (by decide) rfl ?_
      refine am_aload_n (pc := 38) C dX9_orderLine_38 rfl ?_
      refine am_getR (pc := 39) (j := 1) C dX9_orderLine_39 f9_9 bn_130 sh_130 (rf_130_0 hR) ?_
      refine am_callVvr (Y := mX8_advance) (pc := 42) (st := []) (As := []) (PP := fun c9 => cl_to (c9) t (rf_oNum t o) ∧ cl_fr (g18_0) c9 1 1) C dX9_orderLine_42 k9_87 v_X8_advance rfl rfl bn_1 sh_1 ⟨by decide, rfl⟩ (by decide) (Nat.zero_le _) (Nat.zero_le _) (Nat.le_of_ble_eq_true rfl) (c_X8_adv_n (h := g18_0) hR t o (show cl_to (g18_0) t o from K18) (show rf_To o from hT) 0 (nI (rf_S w) - nI 1) (show 0 < 1000 from (by decide)) (show rf_rNum t o 0 (nI (rf_S w) - nI 1) ≠ 0 from (of_decide_eq_true q25))) (fun g42_1 hg42_1 => ?_)
      obtain ⟨K42, F42⟩ := hg42_1
      have L42 := cl_Lo_eq (fun i a b => F42 i (by omega)) L18
      have S42 := cl_Sc_eq (fun i a b => F42 i (by omega)) S18
      have W42 : cl_fwt h g42_1 := fun i h9 => (F42 i (by omega)).trans (W18 i h9)
      have hrs := rf_rS_le (t := t) (o := o) hS9
      have hr0 : rf_rS t o w ≠ 0 := of_decide_eq_true q25
      refine am_aload_n (pc := 45) C dX9_orderLine_45 rfl ?_
      refine am_callVir (Y := mX9_readSet) (pc := 46) (st := []) (As := []) (x := (am_b (!decide ((rf_mt t (rf_oNum t o) w).1 < 0)))) (PP := fun c9 => cl_RS (g42_1) c9 t (rf_mt t (rf_oNum t o) w)) C dX9_orderLine_46 k9_99 v_X9_readSet rfl rfl bn_130 sh_130 ⟨by decide, rfl⟩ (by decide) (Nat.zero_le _) (Nat.zero_le _) (Nat.le_of_ble_eq_true rfl) (c_X9_readSet (h := g42_1) hR t (rf_oNum t o) (show rf_To (rf_oNum t o) from hTn.1) (show cl_to (g42_1) t (rf_oNum t o) from K42) w (show rf_I w from hV) (show cl_Lo (g42_1) 57 w from L42)) (fun g46_2 hg46_2 => ?_)
      obtain ⟨R46, T46, F46⟩ := hg46_2
      have L46 := cl_Lo_eq (fun i a b => F46 i (by omega)) L42
      have S46 := cl_Sc_eq (fun i a b => F46 i (by omega)) S42
      have W46 : cl_fwt h g46_2 := fun i h9 => (F46 i (by omega)).trans (W42 i h9)
      refine am_if_neB (pc := 49) (tgt := 54) C dX9_orderLine_49 (by decide) (fun q49 => ?_) (fun q49 => ?_)
      · skip
        refine am_aload_n (pc := 54) C dX9_orderLine_54 rfl ?_
        refine am_getR (pc := 55) (j := 57) C dX9_orderLine_55 f9_25 bn_130 sh_130 (rf_130_2 hR) ?_
        refine am_iload_n (pc := 58) C dX9_orderLine_58 rfl ?_
        refine am_aload_n (pc := 59) C dX9_orderLine_59 rfl ?_
        refine am_getI (pc := 60) C dX9_orderLine_60 f9_102 bn_130 sh_130 ?_
        refine am_top (show ((g46_2 130) 3) = ((rf_mt t (rf_oNum t o) w).1) from (T46 (cl_ndt q49)).2) ?_
        refine am_callVv (Y := mX3_addOrder) (pc := 63) (st := []) (As := [.int (nI (rf_rS t o w - 1)), .int ((rf_mt t (rf_oNum t o) w).1)]) (h2 := (am_row (am_row (am_row g46_2 67 (upd (g46_2 67) (rf_nat ((g46_2 57) 3)) (nI (rf_rS t o w - 1)))) 68 (upd (g46_2 68) (rf_nat ((g46_2 57) 3)) ((rf_mt t (rf_oNum t o) w).1))) 57 (upd (g46_2 57) 3 (nI (rf_nat ((g46_2 57) 3) + 1))))) C dX9_orderLine_63 k9_151 v_X3_addOrder rfl rfl bn_57 sh_57 ⟨by decide, rfl⟩ (by decide) (Nat.zero_le _) (Nat.zero_le _) (Nat.le_of_ble_eq_true rfl) (c_X3_addOrder_d (h := g46_2) hR (nI (rf_rS t o w - 1)) ((rf_mt t (rf_oNum t o) w).1) (show rf_n ((g46_2 57) 3) 10 from (cl_Lo_n3 hV q9 L46))) ?_
        refine am_iconstN (pc := 66) (k := 1) C dX9_orderLine_66 ?_
        have E9 : rf_lnO t o w = (true, (rf_mt t (rf_oNum t o) w).2, rf_ordW w (nI (rf_rS t o w - 1)) (rf_mt t (rf_oNum t o) w).1) := by rw [rf_lnO, if_neg (show ¬ rf_O w = 10 by omega), if_neg hr0, if_neg (cl_ndt q49)]; rfl
        exact am_iretbr T dX9_orderLine_67 rfl (Nat.le_refl _) (Nat.le_refl _) (by rw [E9]; rfl) rfl (by rw [E9]; exact ⟨fun _ => ⟨cl_to_h (by rw [am_row_ne _ _ _ (by decide), am_row_ne _ _ _ (by decide), am_row_ne _ _ _ (by decide)]) (by rw [am_row_ne _ _ _ (by decide), am_row_ne _ _ _ (by decide), am_row_ne _ _ _ (by decide)]) (T46 (cl_ndt q49)).1, cl_orderedh hV q9 L46 S46 _ rfl⟩, fun z => absurd z (fun y => Bool.false_ne_true y.symm), (fun i9 h9 => by rw [am_row_ne _ _ _ (by omega), am_row_ne _ _ _ (by omega), am_row_ne _ _ _ (by omega)]; exact W46 i9 h9)⟩)
      · skip
        refine am_iconstN (pc := 52) (k := 0) C dX9_orderLine_52 ?_
        have E9 : rf_lnO t o w = (false, (rf_mt t (rf_oNum t o) w).2, w) := by rw [rf_lnO, if_neg (show ¬ rf_O w = 10 by omega), if_neg hr0, if_pos (cl_ndf q49)]
        exact am_iretbr T dX9_orderLine_53 rfl (Nat.le_refl _) (Nat.le_refl _) (by rw [E9]; rfl) rfl (by rw [E9]; exact ⟨fun z => absurd z Bool.false_ne_true, fun _ => R46 (cl_ndf q49), (fun i h9 => W46 i h9)⟩)
    · skip
      refine am_iconstN (pc := 28) (k := 0) C dX9_orderLine_28 ?_
      have E9 : rf_lnO t o w = (false, rf_oNum t o, w) := by rw [rf_lnO, if_neg (show ¬ rf_O w = 10 by omega), if_pos (Classical.not_not.mp (of_decide_eq_false q25))]
      exact am_iretbr T dX9_orderLine_29 rfl (Nat.le_refl _) (Nat.le_refl _) (by rw [E9]; rfl) rfl (by rw [E9]; exact ⟨fun z => absurd z Bool.false_ne_true, fun _ => (cl_to_b K18).trans (congrArg nI (rf_b_num hT).symm), (fun i h9 => W18 i h9)⟩)
  · skip
    refine am_iconstN (pc := 12) (k := 0) C dX9_orderLine_12 ?_
    have E9 : rf_lnO t o w = (false, o, w) := by rw [rf_lnO, if_pos (show rf_O w = 10 by omega)]
    exact am_iretbr T dX9_orderLine_13 rfl (Nat.le_refl _) (Nat.le_refl _) (by rw [E9]; rfl) rfl (by rw [E9]; exact ⟨fun z => absurd z Bool.false_ne_true, fun _ => (cl_tp_b K), (fun _ _ => rfl)⟩)

set_option maxHeartbeats 400000 in
set_option maxRecDepth 100000 in
theorem c_X9_planLine {ad : Nat → Nat} {r : am_R} (hR : am_rs r) {h : am_H}  (t : rf_W) (o : rf_W) (hT : rf_To o) (K : cl_tp (h) t (rf_e o) (rf_b o)) (hs : cl_sp t (rf_e o) (rf_b o) = rf_p o) (w : rf_W) (hV : rf_I w) (hLo : cl_Lo (h) 57 w) (hSc : cl_Sc (h) 78 w)  : am_CM mX9_planLine 4 0 0 [.ref 130] (am_VV ad) r h (am_pr (some (.int (am_b ((rf_lnP t o w).1)))) r (fun c9 => cl_LN (h) c9 t (rf_lnP t o w))) := by
  refine am_CM.of (by decide +kernel) (Nat.le_of_ble_eq_true rfl) (fun X C T => ?_)
  show am_G X (am_VV ad) (0, 0) 0 [(0, .ref 130)] [] r h
  have hM9 : rf_M w < 17 := hV.1.1.2
  have hS9 : rf_S w < 11 := hV.1.2.1.2
  have hO9 : rf_O w < 11 := hV.1.2.2.2
  have hTn := rf_Tm_num (t := t) hT
  refine am_aload_n (pc := 0) C dX9_planLine_0 rfl ?_
  refine am_getR (pc := 1) (j := 1) C dX9_planLine_1 f9_9 bn_130 sh_130 (rf_130_0 hR) ?_
  refine am_callVvr (Y := mX8_advance) (pc := 4) (st := []) (As := []) (PP := fun c9 => cl_to (c9) t o ∧ cl_fr (h) c9 1 1) C dX9_planLine_4 k9_87 v_X8_advance rfl rfl bn_1 sh_1 ⟨by decide, rfl⟩ (by decide) (Nat.zero_le _) (Nat.zero_le _) (Nat.le_of_ble_eq_true rfl) (c_X8_adv_p (h := h) hR t o (show cl_tp (h) t (rf_e o) (rf_b o) from K) (show cl_sp t (rf_e o) (rf_b o) = rf_p o from hs) (show rf_To o from hT)) (fun g4_0 hg4_0 => ?_)
  obtain ⟨K4, F4⟩ := hg4_0
  have L4 := cl_Lo_eq (fun i a b => F4 i (by omega)) hLo
  have S4 := cl_Sc_eq (fun i a b => F4 i (by omega)) hSc
  have W4 : cl_fwt h g4_0 := fun i h9 => (F4 i (by omega)).trans rfl
  refine am_aload_n (pc := 7) C dX9_planLine_7 rfl ?_
  refine am_getR (pc := 8) (j := 1) C dX9_planLine_8 f9_9 bn_130 sh_130 (rf_130_0 hR) ?_
  refine am_iconstN (pc := 11) (k := 0) C dX9_planLine_11 ?_
  refine am_iconstN (pc := 12) (k := 1) C dX9_planLine_12 ?_
  refine am_callVi (Y := mX8_isNumber) (pc := 13) (st := []) (As := [.int (nI 0), .int (nI 1)]) (x := (am_b (decide (rf_rNum t o 0 (nI 1) ≠ 0)))) (h2 := g4_0) C dX9_planLine_13 k9_90 v_X8_isNumber rfl rfl bn_1 sh_1 ⟨by decide, rfl⟩ (by decide) (Nat.zero_le _) (Nat.zero_le _) (Nat.le_of_ble_eq_true rfl) (c_X8_isNumber_o (h := g4_0) hR 0 (nI 1) t o (show cl_to (g4_0) t o from K4) (show 0 < 1000 from (by decide))) ?_
  refine am_if_neB (pc := 16) (tgt := 21) C dX9_planLine_16 (by decide) (fun q16 => ?_) (fun q16 => ?_)
  · skip
    refine am_aload_n (pc := 21) C dX9_planLine_21 rfl ?_
    refine am_getR (pc := 22) (j := 1) C dX9_planLine_22 f9_9 bn_130 sh_130 (rf_130_0 hR) ?_
    refine am_getI (pc := 25) C dX9_planLine_25 f9_94 bn_1 sh_1 ?_
    refine am_top (show ((g4_0 1) 5) = (nI (rf_rNum t o 0 (nI 1) - 1)) from (cl_to_v K4 (by decide) (of_decide_eq_true q16))) ?_
    refine am_istore_n (pc := 28) (ls' := [(0, .ref 130), (1, .int (nI (rf_rNum t o 0 (nI 1) - 1)))]) C dX9_planLine_28 (by decide) rfl ?_
    refine am_aload_n (pc := 29) C dX9_planLine_29 rfl ?_
    refine am_getR (pc := 30) (j := 1) C dX9_planLine_30 f9_9 bn_130 sh_130 (rf_130_0 hR) ?_
    refine am_callVvr (Y := mX8_advance) (pc := 33) (st := []) (As := []) (PP := fun c9 => cl_to (c9) t (rf_oNum t o) ∧ cl_fr (g4_0) c9 1 1) C dX9_planLine_33 k9_87 v_X8_advance rfl rfl bn_1 sh_1 ⟨by decide, rfl⟩ (by decide) (Nat.zero_le _) (Nat.zero_le _) (Nat.le_of_ble_eq_true rfl) (c_X8_adv_n (h := g4_0) hR t o (show cl_to (g4_0) t o from K4) (show rf_To o from hT) 0 (nI 1) (show 0 < 1000 from (by decide)) (show rf_rNum t o 0 (nI 1) ≠ 0 from (of_decide_eq_true q16))) (fun g33_1 hg33_1 => ?_)
    obtain ⟨K33, F33⟩ := hg33_1
    have L33 := cl_Lo_eq (fun i a b => F33 i (by omega)) L4
    have S33 := cl_Sc_eq (fun i a b => F33 i (by omega)) S4
    have W33 : cl_fwt h g33_1 := fun i h9 => (F33 i (by omega)).trans (W4 i h9)
    have hr0 : rf_rNum t o 0 (nI 1) ≠ 0 := of_decide_eq_true q16
    have hrs := (rf_num_le (t := t) (o := o) (low := 0) (n := 1) (by decide) hr0).1
    refine am_aload_n (pc := 36) C dX9_planLine_36 rfl ?_
    refine am_callVir (Y := mX9_readSet) (pc := 37) (st := []) (As := []) (x := (am_b (!decide ((rf_mt t (rf_oNum t o) w).1 < 0)))) (PP := fun c9 => cl_RS (g33_1) c9 t (rf_mt t (rf_oNum t o) w)) C dX9_planLine_37 k9_99 v_X9_readSet rfl rfl bn_130 sh_130 ⟨by decide, rfl⟩ (by decide) (Nat.zero_le _) (Nat.zero_le _) (Nat.le_of_ble_eq_true rfl) (c_X9_readSet (h := g33_1) hR t (rf_oNum t o) (show rf_To (rf_oNum t o) from hTn.1) (show cl_to (g33_1) t (rf_oNum t o) from K33) w (show rf_I w from hV) (show cl_Lo (g33_1) 57 w from L33)) (fun g37_2 hg37_2 => ?_)
    obtain ⟨R37, T37, F37⟩ := hg37_2
    have L37 := cl_Lo_eq (fun i a b => F37 i (by omega)) L33
    have S37 := cl_Sc_eq (fun i a b => F37 i (by omega)) S33
    have W37 : cl_fwt h g37_2 := fun i h9 => (F37 i (by omega)).trans (W33 i h9)
    refine am_if_neB (pc := 40) (tgt := 45) C dX9_planLine_40 (by decide) (fun q40 => ?_) (fun q40 => ?_)
    · skip
      refine am_aload_n (pc := 45) C dX9_planLine_45 rfl ?_
      refine am_getR (pc := 46) (j := 57) C dX9_planLine_46 f9_25 bn_130 sh_130 (rf_130_2 hR) ?_
      refine am_getR (pc := 49) (j := 69) C dX9_planLine_49 f9_154 bn_57 sh_57 (rf_57_15 hR) ?_
      refine am_iload_n (pc := 52) C dX9_planLine_52 rfl ?_
      refine am_aload_n (pc := 53) C dX9_planLine_53 rfl ?_
      refine am_getR (pc := 54) (j := 57) C dX9_planLine_54 f9_25 bn_130 sh_130 (rf_130_2 hR) ?_
      refine am_getR (pc := 57) (j := 69) C dX9_planLine_57 f9_154 bn_57 sh_57 (rf_57_15 hR) ?_
      refine am_iload_n (pc := 60) C dX9_planLine_60 rfl ?_
      refine am_callSNi (Y := mX11_pick) (pc := 61) (st := [.int (nI (rf_rNum t o 0 (nI 1) - 1)), .ref 69]) (As := [.ref 69, .int (nI (rf_rNum t o 0 (nI 1) - 1))]) (x := ((g37_2 69) (rf_rNum t o 0 (nI 1) - 1))) (h2 := g37_2) C dX9_planLine_61 k9_144 v_X11_pick rfl rfl (by decide) (Nat.zero_le _) (Nat.zero_le _) (Nat.le_of_ble_eq_true rfl) (c_X11_pick 69 (rf_rNum t o 0 (nI 1) - 1) 2 bn_69 sh_69 (show rf_rNum t o 0 (nI 1) - 1 < 2 from (by omega)) (by decide)) ?_
      refine am_aload_n (pc := 64) C dX9_planLine_64 rfl ?_
      refine am_getI (pc := 65) C dX9_planLine_65 f9_102 bn_130 sh_130 ?_
      refine am_top (show ((g37_2 130) 3) = ((rf_mt t (rf_oNum t o) w).1) from (T37 (cl_ndt q40)).2) ?_
      refine am_ior (pc := 68) C dX9_planLine_68 ?_
      refine am_callSNv (Y := mX11_put) (pc := 69) (st := []) (As := [.ref 69, .int (nI (rf_rNum t o 0 (nI 1) - 1)), .int (((g37_2 69) (rf_rNum t o 0 (nI 1) - 1)) ||| ((rf_mt t (rf_oNum t o) w).1))]) (h2 := (am_row g37_2 69 (upd (g37_2 69) (rf_rNum t o 0 (nI 1) - 1) (((g37_2 69) (rf_rNum t o 0 (nI 1) - 1)) ||| ((rf_mt t (rf_oNum t o) w).1))))) C dX9_planLine_69 k9_116 v_X11_put rfl rfl (by decide) (Nat.zero_le _) (Nat.zero_le _) (Nat.le_of_ble_eq_true rfl) (c_X11_put 69 (rf_rNum t o 0 (nI 1) - 1) (((g37_2 69) (rf_rNum t o 0 (nI 1) - 1)) ||| ((rf_mt t (rf_oNum t o) w).1)) 2 bn_69 sh_69 (show rf_rNum t o 0 (nI 1) - 1 < 2 from (by omega)) (by decide)) ?_
      refine am_iconstN (pc := 72) (k := 1) C dX9_planLine_72 ?_
      have E9 : rf_lnP t o w = (true, (rf_mt t (rf_oNum t o) w).2, upd w (11 + (rf_rNum t o 0 (nI 1) - 1)) (w (11 + (rf_rNum t o 0 (nI 1) - 1)) ||| (rf_mt t (rf_oNum t o) w).1)) := by rw [rf_lnP, if_neg hr0, if_neg (cl_ndt q40)]
      exact am_iretbr T dX9_planLine_73 rfl (Nat.le_refl _) (Nat.le_refl _) (by rw [E9]; rfl) rfl (by rw [E9]; exact ⟨fun _ => ⟨cl_to_h (am_row_ne _ _ _ (by decide)) (am_row_ne _ _ _ (by decide)) (T37 (cl_ndt q40)).1, cl_planned (b := 57) hV (by omega) (rf_mt_lo hM9 (cl_ndt q40)) L37 S37 (by rw [am_row_at]) (fun i a b c => am_row_ne _ _ _ c)⟩, fun z => absurd z (fun y => Bool.false_ne_true y.symm), (fun i9 h9 => by rw [am_row_ne _ _ _ (by omega)]; exact W37 i9 h9)⟩)
    · skip
      refine am_iconstN (pc := 43) (k := 0) C dX9_planLine_43 ?_
      have E9 : rf_lnP t o w = (false, (rf_mt t (rf_oNum t o) w).2, w) := by rw [rf_lnP, if_neg hr0, if_pos (cl_ndf q40)]
      exact am_iretbr T dX9_planLine_44 rfl (Nat.le_refl _) (Nat.le_refl _) (by rw [E9]; rfl) rfl (by rw [E9]; exact ⟨fun z => absurd z Bool.false_ne_true, fun _ => R37 (cl_ndf q40), (fun i h9 => W37 i h9)⟩)
  · skip
    refine am_iconstN (pc := 19) (k := 0) C dX9_planLine_19 ?_
    have E9 : rf_lnP t o w = (false, rf_oNum t o, w) := by rw [rf_lnP, if_pos (Classical.not_not.mp (of_decide_eq_false q16))]
    exact am_iretbr T dX9_planLine_20 rfl (Nat.le_refl _) (Nat.le_refl _) (by rw [E9]; rfl) rfl (by rw [E9]; exact ⟨fun z => absurd z Bool.false_ne_true, fun _ => (cl_to_b K4).trans (congrArg nI (rf_b_num hT).symm), (fun i h9 => W4 i h9)⟩)

set_option maxHeartbeats 400000 in
set_option maxRecDepth 100000 in
theorem c_X9_clashLine {ad : Nat → Nat} {r : am_R} (hR : am_rs r) {h : am_H}  (t : rf_W) (o : rf_W) (hT : rf_To o) (K : cl_tp (h) t (rf_e o) (rf_b o)) (hs : cl_sp t (rf_e o) (rf_b o) = rf_p o) (w : rf_W) (hV : rf_I w) (hLo : cl_Lo (h) 57 w) (hSc : cl_Sc (h) 78 w)  : am_CM mX9_clashLine 3 0 0 [.ref 130] (am_VV ad) r h (am_pr (some (.int (am_b ((rf_lnC t o w).1)))) r (fun c9 => cl_LN (h) c9 t (rf_lnC t o w))) := by
  refine am_CM.of (by decide +kernel) (Nat.le_of_ble_eq_true rfl) (fun X C T => ?_)
  show am_G X (am_VV ad) (0, 0) 0 [(0, .ref 130)] [] r h
  have hM9 : rf_M w < 17 := hV.1.1.2
  have hS9 : rf_S w < 11 := hV.1.2.1.2
  have hO9 : rf_O w < 11 := hV.1.2.2.2
  have hTn := rf_Tm_num (t := t) hT
  have hTm := rf_Tm_num (t := t) hTn.1
  refine am_aload_n (pc := 0) C dX9_clashLine_0 rfl ?_
  refine am_getR (pc := 1) (j := 1) C dX9_clashLine_1 f9_9 bn_130 sh_130 (rf_130_0 hR) ?_
  refine am_callVvr (Y := mX8_advance) (pc := 4) (st := []) (As := []) (PP := fun c9 => cl_to (c9) t o ∧ cl_fr (h) c9 1 1) C dX9_clashLine_4 k9_87 v_X8_advance rfl rfl bn_1 sh_1 ⟨by decide, rfl⟩ (by decide) (Nat.zero_le _) (Nat.zero_le _) (Nat.le_of_ble_eq_true rfl) (c_X8_adv_p (h := h) hR t o (show cl_tp (h) t (rf_e o) (rf_b o) from K) (show cl_sp t (rf_e o) (rf_b o) = rf_p o from hs) (show rf_To o from hT)) (fun g4_0 hg4_0 => ?_)
  obtain ⟨K4, F4⟩ := hg4_0
  have L4 := cl_Lo_eq (fun i a b => F4 i (by omega)) hLo
  have S4 := cl_Sc_eq (fun i a b => F4 i (by omega)) hSc
  have W4 : cl_fwt h g4_0 := fun i h9 => (F4 i (by omega)).trans rfl
  refine am_aload_n (pc := 7) C dX9_clashLine_7 rfl ?_
  refine am_callVi (Y := mX9_isMemory) (pc := 8) (st := []) (As := []) (x := (am_b (decide (rf_rM t o w ≠ 0)))) (h2 := g4_0) C dX9_clashLine_8 k9_135 v_X9_isMemory rfl rfl bn_130 sh_130 ⟨by decide, rfl⟩ (by decide) (Nat.zero_le _) (Nat.zero_le _) (Nat.le_of_ble_eq_true rfl) (c_X9_isMemory (h := g4_0) hR t o (show cl_to (g4_0) t o from K4) w (show rf_I w from hV) (show cl_Lo (g4_0) 57 w from L4)) ?_
  refine am_if_neB (pc := 11) (tgt := 16) C dX9_clashLine_11 (by decide) (fun q11 => ?_) (fun q11 => ?_)
  · skip
    refine am_aload_n (pc := 16) C dX9_clashLine_16 rfl ?_
    refine am_getR (pc := 17) (j := 1) C dX9_clashLine_17 f9_9 bn_130 sh_130 (rf_130_0 hR) ?_
    refine am_getI (pc := 20) C dX9_clashLine_20 f9_94 bn_1 sh_1 ?_
    refine am_top (show ((g4_0 1) 5) = (nI (rf_rM t o w - 1)) from (cl_to_v K4 (by decide) (of_decide_eq_true q11))) ?_
    refine am_istore_n (pc := 23) (ls' := [(0, .ref 130), (1, .int (nI (rf_rM t o w - 1)))]) C dX9_clashLine_23 (by decide) rfl ?_
    refine am_aload_n (pc := 24) C dX9_clashLine_24 rfl ?_
    refine am_getR (pc := 25) (j := 1) C dX9_clashLine_25 f9_9 bn_130 sh_130 (rf_130_0 hR) ?_
    refine am_callVvr (Y := mX8_advance) (pc := 28) (st := []) (As := []) (PP := fun c9 => cl_to (c9) t (rf_oNum t o) ∧ cl_fr (g4_0) c9 1 1) C dX9_clashLine_28 k9_87 v_X8_advance rfl rfl bn_1 sh_1 ⟨by decide, rfl⟩ (by decide) (Nat.zero_le _) (Nat.zero_le _) (Nat.le_of_ble_eq_true rfl) (c_X8_adv_n (h := g4_0) hR t o (show cl_to (g4_0) t o from K4) (show rf_To o from hT) 0 (nI (rf_M w) - nI 1) (show 0 < 1000 from (by decide)) (show rf_rNum t o 0 (nI (rf_M w) - nI 1) ≠ 0 from (of_decide_eq_true q11))) (fun g28_1 hg28_1 => ?_)
    obtain ⟨K28, F28⟩ := hg28_1
    have L28 := cl_Lo_eq (fun i a b => F28 i (by omega)) L4
    have S28 := cl_Sc_eq (fun i a b => F28 i (by omega)) S4
    have W28 : cl_fwt h g28_1 := fun i h9 => (F28 i (by omega)).trans (W4 i h9)
    have hrs := rf_rM_le (t := t) (o := o) hM9
    have hr0 : rf_rM t o w ≠ 0 := of_decide_eq_true q11
    refine am_aload_n (pc := 31) C dX9_clashLine_31 rfl ?_
    refine am_callVi (Y := mX9_isMemory) (pc := 32) (st := []) (As := []) (x := (am_b (decide (rf_rM t (rf_oNum t o) w ≠ 0)))) (h2 := g28_1) C dX9_clashLine_32 k9_135 v_X9_isMemory rfl rfl bn_130 sh_130 ⟨by decide, rfl⟩ (by decide) (Nat.zero_le _) (Nat.zero_le _) (Nat.le_of_ble_eq_true rfl) (c_X9_isMemory (h := g28_1) hR t (rf_oNum t o) (show cl_to (g28_1) t (rf_oNum t o) from K28) w (show rf_I w from hV) (show cl_Lo (g28_1) 57 w from L28)) ?_
    refine am_if_eqB (pc := 35) (tgt := 49) C dX9_clashLine_35 (by decide) (fun q35 => ?_) (fun q35 => ?_)
    · skip
      refine am_iconstN (pc := 49) (k := 0) C dX9_clashLine_49 ?_
      have E9 : rf_lnC t o w = (false, rf_oNum t (rf_oNum t o), w) := by rw [rf_lnC, if_neg hr0, if_pos (Or.inl (Classical.not_not.mp (of_decide_eq_false q35)))]
      exact am_iretbr T dX9_clashLine_50 rfl (Nat.le_refl _) (Nat.le_refl _) (by rw [E9]; rfl) rfl (by rw [E9]; exact ⟨fun z => absurd z Bool.false_ne_true, fun _ => (cl_to_b K28).trans (congrArg nI (rf_b_num hTn.1).symm), (fun i h9 => W28 i h9)⟩)
    · skip
      have hrs2 := rf_rM_le (t := t) (o := rf_oNum t o) hM9
      have hr2 : rf_rM t (rf_oNum t o) w ≠ 0 := of_decide_eq_true q35
      refine am_aload_n (pc := 38) C dX9_clashLine_38 rfl ?_
      refine am_getR (pc := 39) (j := 1) C dX9_clashLine_39 f9_9 bn_130 sh_130 (rf_130_0 hR) ?_
      refine am_getI (pc := 42) C dX9_clashLine_42 f9_94 bn_1 sh_1 ?_
      refine am_top (show ((g28_1 1) 5) = (nI (rf_rM t (rf_oNum t o) w - 1)) from (cl_to_v K28 (by decide) (of_decide_eq_true q35))) ?_
      refine am_iload_n (pc := 45) C dX9_clashLine_45 rfl ?_
      refine am_icmp_neN (pc := 46) (tgt := 51) C dX9_clashLine_46 (by decide) (by omega) (by omega) (fun q46 => ?_) (fun q46 => ?_)
      · skip
        refine am_aload_n (pc := 51) C dX9_clashLine_51 rfl ?_
        refine am_getR (pc := 52) (j := 1) C dX9_clashLine_52 f9_9 bn_130 sh_130 (rf_130_0 hR) ?_
        refine am_getI (pc := 55) C dX9_clashLine_55 f9_94 bn_1 sh_1 ?_
        refine am_top (show ((g28_1 1) 5) = (nI (rf_rM t (rf_oNum t o) w - 1)) from (cl_to_v K28 (by decide) (of_decide_eq_true q35))) ?_
        refine am_istore_n (pc := 58) (ls' := [(0, .ref 130), (1, .int (nI (rf_rM t o w - 1))), (2, .int (nI (rf_rM t (rf_oNum t o) w - 1)))]) C dX9_clashLine_58 (by decide) rfl ?_
        refine am_aload_n (pc := 59) C dX9_clashLine_59 rfl ?_
        refine am_getR (pc := 60) (j := 57) C dX9_clashLine_60 f9_25 bn_130 sh_130 (rf_130_2 hR) ?_
        refine am_getR (pc := 63) (j := 62) C dX9_clashLine_63 f9_156 bn_57 sh_57 (rf_57_8 hR) ?_
        refine am_iload_n (pc := 66) C dX9_clashLine_66 rfl ?_
        refine am_aload_n (pc := 67) C dX9_clashLine_67 rfl ?_
        refine am_getR (pc := 68) (j := 57) C dX9_clashLine_68 f9_25 bn_130 sh_130 (rf_130_2 hR) ?_
        refine am_getR (pc := 71) (j := 62) C dX9_clashLine_71 f9_156 bn_57 sh_57 (rf_57_8 hR) ?_
        refine am_iload_n (pc := 74) C dX9_clashLine_74 rfl ?_
        refine am_callSNi (Y := mX11_pick) (pc := 75) (st := [.int (nI (rf_rM t o w - 1)), .ref 62]) (As := [.ref 62, .int (nI (rf_rM t o w - 1))]) (x := ((g28_1 62) (rf_rM t o w - 1))) (h2 := g28_1) C dX9_clashLine_75 k9_144 v_X11_pick rfl rfl (by decide) (Nat.zero_le _) (Nat.zero_le _) (Nat.le_of_ble_eq_true rfl) (c_X11_pick 62 (rf_rM t o w - 1) 16 bn_62 sh_62 (show rf_rM t o w - 1 < 16 from (by omega)) (by decide)) ?_
        refine am_iconstN (pc := 78) (k := 1) C dX9_clashLine_78 ?_
        refine am_iload_n (pc := 79) C dX9_clashLine_79 rfl ?_
        refine am_ishl (pc := 80) C dX9_clashLine_80 ?_
        refine am_ior (pc := 81) C dX9_clashLine_81 ?_
        refine am_callSNv (Y := mX11_put) (pc := 82) (st := []) (As := [.ref 62, .int (nI (rf_rM t o w - 1)), .int (((g28_1 62) (rf_rM t o w - 1)) ||| ((nI 1) <<< ((nI (rf_rM t (rf_oNum t o) w - 1)) &&& 31)))]) (h2 := (am_row g28_1 62 (upd (g28_1 62) (rf_rM t o w - 1) (((g28_1 62) (rf_rM t o w - 1)) ||| ((nI 1) <<< ((nI (rf_rM t (rf_oNum t o) w - 1)) &&& 31)))))) C dX9_clashLine_82 k9_116 v_X11_put rfl rfl (by decide) (Nat.zero_le _) (Nat.zero_le _) (Nat.le_of_ble_eq_true rfl) (c_X11_put 62 (rf_rM t o w - 1) (((g28_1 62) (rf_rM t o w - 1)) ||| ((nI 1) <<< ((nI (rf_rM t (rf_oNum t o) w - 1)) &&& 31))) 16 bn_62 sh_62 (show rf_rM t o w - 1 < 16 from (by omega)) (by decide)) ?_
        refine am_aload_n (pc := 85) C dX9_clashLine_85 rfl ?_
        refine am_getR (pc := 86) (j := 57) C dX9_clashLine_86 f9_25 bn_130 sh_130 (rf_130_2 hR) ?_
        refine am_getR (pc := 89) (j := 62) C dX9_clashLine_89 f9_156 bn_57 sh_57 (rf_57_8 hR) ?_
        refine am_iload_n (pc := 92) C dX9_clashLine_92 rfl ?_
        refine am_aload_n (pc := 93) C dX9_clashLine_93 rfl ?_
        refine am_getR (pc := 94) (j := 57) C dX9_clashLine_94 f9_25 bn_130 sh_130 (rf_130_2 hR) ?_
        refine am_getR (pc := 97) (j := 62) C dX9_clashLine_97 f9_156 bn_57 sh_57 (rf_57_8 hR) ?_
        refine am_iload_n (pc := 100) C dX9_clashLine_100 rfl ?_
        refine am_callSNi (Y := mX11_pick) (pc := 101) (st := [.int (nI (rf_rM t (rf_oNum t o) w - 1)), .ref 62]) (As := [.ref 62, .int (nI (rf_rM t (rf_oNum t o) w - 1))]) (x := ((upd (g28_1 62) (rf_rM t o w - 1) (((g28_1 62) (rf_rM t o w - 1)) ||| ((nI 1) <<< ((nI (rf_rM t (rf_oNum t o) w - 1)) &&& 31)))) (rf_rM t (rf_oNum t o) w - 1))) (h2 := (am_row g28_1 62 (upd (g28_1 62) (rf_rM t o w - 1) (((g28_1 62) (rf_rM t o w - 1)) ||| ((nI 1) <<< ((nI (rf_rM t (rf_oNum t o) w - 1)) &&& 31)))))) C dX9_clashLine_101 k9_144 v_X11_pick rfl rfl (by decide) (Nat.zero_le _) (Nat.zero_le _) (Nat.le_of_ble_eq_true rfl) (c_X11_pick 62 (rf_rM t (rf_oNum t o) w - 1) 16 bn_62 sh_62 (show rf_rM t (rf_oNum t o) w - 1 < 16 from (by omega)) (by decide)) ?_
        refine am_iconstN (pc := 104) (k := 1) C dX9_clashLine_104 ?_
        refine am_iload_n (pc := 105) C dX9_clashLine_105 rfl ?_
        refine am_ishl (pc := 106) C dX9_clashLine_106 ?_
        refine am_ior (pc := 107) C dX9_clashLine_107 ?_
        refine am_callSNv (Y := mX11_put) (pc := 108) (st := []) (As := [.ref 62, .int (nI (rf_rM t (rf_oNum t o) w - 1)), .int (((upd (g28_1 62) (rf_rM t o w - 1) (((g28_1 62) (rf_rM t o w - 1)) ||| ((nI 1) <<< ((nI (rf_rM t (rf_oNum t o) w - 1)) &&& 31)))) (rf_rM t (rf_oNum t o) w - 1)) ||| ((nI 1) <<< ((nI (rf_rM t o w - 1)) &&& 31)))]) (h2 := (am_row (am_row g28_1 62 (upd (g28_1 62) (rf_rM t o w - 1) (((g28_1 62) (rf_rM t o w - 1)) ||| ((nI 1) <<< ((nI (rf_rM t (rf_oNum t o) w - 1)) &&& 31))))) 62 (upd (upd (g28_1 62) (rf_rM t o w - 1) (((g28_1 62) (rf_rM t o w - 1)) ||| ((nI 1) <<< ((nI (rf_rM t (rf_oNum t o) w - 1)) &&& 31)))) (rf_rM t (rf_oNum t o) w - 1) (((upd (g28_1 62) (rf_rM t o w - 1) (((g28_1 62) (rf_rM t o w - 1)) ||| ((nI 1) <<< ((nI (rf_rM t (rf_oNum t o) w - 1)) &&& 31)))) (rf_rM t (rf_oNum t o) w - 1)) ||| ((nI 1) <<< ((nI (rf_rM t o w - 1)) &&& 31)))))) C dX9_clashLine_108 k9_116 v_X11_put rfl rfl (by decide) (Nat.zero_le _) (Nat.zero_le _) (Nat.le_of_ble_eq_true rfl) (c_X11_put 62 (rf_rM t (rf_oNum t o) w - 1) (((upd (g28_1 62) (rf_rM t o w - 1) (((g28_1 62) (rf_rM t o w - 1)) ||| ((nI 1) <<< ((nI (rf_rM t (rf_oNum t o) w - 1)) &&& 31)))) (rf_rM t (rf_oNum t o) w - 1)) ||| ((nI 1) <<< ((nI (rf_rM t o w - 1)) &&& 31))) 16 bn_62 sh_62 (show rf_rM t (rf_oNum t o) w - 1 < 16 from (by omega)) (by decide)) ?_
        refine am_hp (show (am_row (am_row g28_1 62 (upd (g28_1 62) (rf_rM t o w - 1) (((g28_1 62) (rf_rM t o w - 1)) ||| ((nI 1) <<< ((nI (rf_rM t (rf_oNum t o) w - 1)) &&& 31))))) 62 (upd (upd (g28_1 62) (rf_rM t o w - 1) (((g28_1 62) (rf_rM t o w - 1)) ||| ((nI 1) <<< ((nI (rf_rM t (rf_oNum t o) w - 1)) &&& 31)))) (rf_rM t (rf_oNum t o) w - 1) (((upd (g28_1 62) (rf_rM t o w - 1) (((g28_1 62) (rf_rM t o w - 1)) ||| ((nI 1) <<< ((nI (rf_rM t (rf_oNum t o) w - 1)) &&& 31)))) (rf_rM t (rf_oNum t o) w - 1)) ||| ((nI 1) <<< ((nI (rf_rM t o w - 1)) &&& 31))))) = (am_row g28_1 62 (upd (upd (g28_1 62) (rf_rM t o w - 1) (((g28_1 62) (rf_rM t o w - 1)) ||| ((nI 1) <<< ((nI (rf_rM t (rf_oNum t o) w - 1)) &&& 31)))) (rf_rM t (rf_oNum t o) w - 1) (((upd (g28_1 62) (rf_rM t o w - 1) (((g28_1 62) (rf_rM t o w - 1)) ||| ((nI 1) <<< ((nI (rf_rM t (rf_oNum t o) w - 1)) &&& 31)))) (rf_rM t (rf_oNum t o) w - 1)) ||| ((nI 1) <<< ((nI (rf_rM t o w - 1)) &&& 31))))) from am_row_s0) ?_
        refine am_aload_n (pc := 111) C dX9_clashLine_111 rfl ?_
        refine am_getR (pc := 112) (j := 1) C dX9_clashLine_112 f9_9 bn_130 sh_130 (rf_130_0 hR) ?_
        refine am_callVvr (Y := mX8_advance) (pc := 115) (st := []) (As := []) (PP := fun c9 => cl_to (c9) t (rf_oNum t (rf_oNum t o)) ∧ cl_fr ((am_row g28_1 62 (upd (upd (g28_1 62) (rf_rM t o w - 1) (((g28_1 62) (rf_rM t o w - 1)) ||| ((nI 1) <<< ((nI (rf_rM t (rf_oNum t o) w - 1)) &&& 31)))) (rf_rM t (rf_oNum t o) w - 1) (((upd (g28_1 62) (rf_rM t o w - 1) (((g28_1 62) (rf_rM t o w - 1)) ||| ((nI 1) <<< ((nI (rf_rM t (rf_oNum t o) w - 1)) &&& 31)))) (rf_rM t (rf_oNum t o) w - 1)) ||| ((nI 1) <<< ((nI (rf_rM t o w - 1)) &&& 31)))))) c9 1 1) C dX9_clashLine_115 k9_87 v_X8_advance rfl rfl bn_1 sh_1 ⟨by decide, rfl⟩ (by decide) (Nat.zero_le _) (Nat.zero_le _) (Nat.le_of_ble_eq_true rfl) (c_X8_adv_n (h := (am_row g28_1 62 (upd (upd (g28_1 62) (rf_rM t o w - 1) (((g28_1 62) (rf_rM t o w - 1)) ||| ((nI 1) <<< ((nI (rf_rM t (rf_oNum t o) w - 1)) &&& 31)))) (rf_rM t (rf_oNum t o) w - 1) (((upd (g28_1 62) (rf_rM t o w - 1) (((g28_1 62) (rf_rM t o w - 1)) ||| ((nI 1) <<< ((nI (rf_rM t (rf_oNum t o) w - 1)) &&& 31)))) (rf_rM t (rf_oNum t o) w - 1)) ||| ((nI 1) <<< ((nI (rf_rM t o w - 1)) &&& 31)))))) hR t (rf_oNum t o) (show cl_to ((am_row g28_1 62 (upd (upd (g28_1 62) (rf_rM t o w - 1) (((g28_1 62) (rf_rM t o w - 1)) ||| ((nI 1) <<< ((nI (rf_rM t (rf_oNum t o) w - 1)) &&& 31)))) (rf_rM t (rf_oNum t o) w - 1) (((upd (g28_1 62) (rf_rM t o w - 1) (((g28_1 62) (rf_rM t o w - 1)) ||| ((nI 1) <<< ((nI (rf_rM t (rf_oNum t o) w - 1)) &&& 31)))) (rf_rM t (rf_oNum t o) w - 1)) ||| ((nI 1) <<< ((nI (rf_rM t o w - 1)) &&& 31)))))) t (rf_oNum t o) from (cl_to_h (am_row_ne _ _ _ (by decide)) (am_row_ne _ _ _ (by decide)) K28)) (show rf_To (rf_oNum t o) from hTn.1) 0 (nI (rf_M w) - nI 1) (show 0 < 1000 from (by decide)) (show rf_rNum t (rf_oNum t o) 0 (nI (rf_M w) - nI 1) ≠ 0 from (of_decide_eq_true q35))) (fun g115_2 hg115_2 => ?_)
        obtain ⟨K115, F115⟩ := hg115_2
        have W115 : cl_fwt h g115_2 := fun i h9 => (F115 i (by omega)).trans ((am_row_ne _ _ _ (by omega)).trans (W28 i h9))
        refine am_iconstN (pc := 118) (k := 1) C dX9_clashLine_118 ?_
        have E9 : rf_lnC t o w = (true, rf_oNum t (rf_oNum t o), rf_clash w (rf_rM t o w - 1) (rf_rM t (rf_oNum t o) w - 1)) := by rw [rf_lnC, if_neg hr0, if_neg (by omega)]
        exact am_iretbr T dX9_clashLine_119 rfl (Nat.le_refl _) (Nat.le_refl _) (by rw [E9]; rfl) rfl (by rw [E9]; exact ⟨fun _ => ⟨K115, cl_clash (b := 57) hV (by omega) (by omega) L28 S28 (by rw [F115 _ (by omega)]; exact am_row_at _ _ _) (fun i a b c => (F115 i (by omega)).trans (am_row_ne _ _ _ c))⟩, fun z => absurd z (fun y => Bool.false_ne_true y.symm), (fun i h9 => W115 i h9)⟩)
      · skip
        refine am_iconstN (pc := 49) (k := 0) C dX9_clashLine_49 ?_
        have E9 : rf_lnC t o w = (false, rf_oNum t (rf_oNum t o), w) := by rw [rf_lnC, if_neg hr0, if_pos (Or.inr (by omega))]
        exact am_iretbr T dX9_clashLine_50 rfl (Nat.le_refl _) (Nat.le_refl _) (by rw [E9]; rfl) rfl (by rw [E9]; exact ⟨fun z => absurd z Bool.false_ne_true, fun _ => (cl_to_b K28).trans (congrArg nI (rf_b_num hTn.1).symm), (fun i h9 => W28 i h9)⟩)
  · skip
    refine am_iconstN (pc := 14) (k := 0) C dX9_clashLine_14 ?_
    have E9 : rf_lnC t o w = (false, rf_oNum t o, w) := by rw [rf_lnC, if_pos (Classical.not_not.mp (of_decide_eq_false q11))]
    exact am_iretbr T dX9_clashLine_15 rfl (Nat.le_refl _) (Nat.le_refl _) (by rw [E9]; rfl) rfl (by rw [E9]; exact ⟨fun z => absurd z Bool.false_ne_true, fun _ => (cl_to_b K4).trans (congrArg nI (rf_b_num hT).symm), (fun i h9 => W4 i h9)⟩)

