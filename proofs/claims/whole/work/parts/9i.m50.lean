/-! THE CLASS: all lines of a war's text -/
section M50
theorem rf_e_o0 {o : rf_W} : rf_e (rf_o0 o) = rf_nat (o 9) := by
  rw [rf_e, rf_o0, rf_upd_ne (by decide), rf_uses, rf_upd_ne (by decide), rf_upd_ne (by decide), rf_upd_eq]
theorem rf_p_o0 {o : rf_W} : rf_p (rf_o0 o) = 0 := by
  rw [rf_p, rf_o0, rf_upd_ne (by decide), rf_uses, rf_upd_eq]; exact rf_nat_nI (by decide)
theorem c_X8_open_o {ad : Nat → Nat} {r : am_R} (hR : am_rs r) {h : am_H} (t o : rf_W) (hOb : rf_Ob o) (hz : (h 1) 1 = o 9) (hby : cl_by (h 2) t (rf_nat (o 9))) : am_CM mX8_open 3 0 0 [.ref 1] (am_VV ad) r h (am_pr none r (fun c9 => cl_to c9 t (rf_o0 o) ∧ cl_fr h c9 1 1)) := by
  have h1 := c_X8_open (ad := ad) hR t (rf_nat (o 9)) hby (by have := hOb.1.2; omega) (hz.trans hOb.1.1)
  have e : rf_SB t (rf_o0 o) = rf_sb t (rf_nat (o 9)) 0 := by rw [rf_SB, rf_e_o0, rf_p_o0]
  rw [← e, ← rf_e_o0] at h1
  exact h1
theorem cl_isW_sp {t o : rf_W} {k : Nat} (h : rf_isW t o k = true) (hp : rf_p o = rf_run t (rf_e o) 97 122 (rf_b o)) (hk0 : 0 < am_len k) : cl_sp t (rf_e o) (rf_b o) = rf_p o := by
  rw [hp]
  refine cl_sp_1 (Classical.byContradiction (fun z => ?_))
  rw [rf_isW, hp] at h
  exact absurd (h.symm.trans (cl_word_1 hk0 z)) (fun y => Bool.false_ne_true y.symm)
/-- all lines have been read, or not -/
def cl_AW (h c : am_H) (w : rf_W) (x : Nat × rf_W × rf_W) : Prop := (x.1 ≠ 0 → cl_Lo c 57 x.2.2 ∧ cl_Sc c 78 x.2.2 ∧ rf_I x.2.2 ∧ rf_Ew w x.2.2) ∧ (x.1 = 0 → (c 1) 3 = nI (rf_b x.2.1)) ∧ cl_fwt h c
theorem cl_tp_le {h : am_H} {t o : rf_W} (hT : rf_To o) (K : cl_to h t o) : cl_tp h t (rf_e (rf_oLe t o)) (rf_b (rf_oLe t o)) := by
  rw [rf_b_le hT, show rf_e (rf_oLe t o) = rf_e o from rf_e_pb]; exact K
theorem cl_oLe_p {t o : rf_W} (hT : rf_To o) : rf_p (rf_oLe t o) = rf_run t (rf_e (rf_oLe t o)) 97 122 (rf_b (rf_oLe t o)) := by
  obtain ⟨a, b, _, d, e, f, g⟩ := rf_S_le (t := t) hT
  rw [rf_b_le hT, show rf_e (rf_oLe t o) = rf_e o from rf_e_pb, rf_oLe, rf_p_pb (by omega)]; rfl
theorem rf_p_bl {t o : rf_W} (hT : rf_To o) : rf_p (rf_oBl t o) = rf_SB t o := by
  obtain ⟨a, b, _, d, e, f, g⟩ := rf_S_le (t := t) hT
  exact rf_p_pb (by omega)
theorem cl_end_y {t o : rf_W} (hT : rf_To o) (h : cl_kd t (rf_e o) (rf_SB t o) = 0) : rf_p (rf_oBl t o) = rf_e (rf_oBl t o) := by
  obtain ⟨a, b, _, d, e, f, g⟩ := rf_S_le (t := t) hT
  rw [rf_p_bl hT, rf_e_bl]
  have := cl_kd_end.mp h; omega
theorem cl_end_n {t o : rf_W} (hT : rf_To o) (h : 0 < cl_kd t (rf_e o) (rf_SB t o)) : ¬ rf_p (rf_oBl t o) = rf_e (rf_oBl t o) := fun z => by
  rw [rf_p_bl hT, rf_e_bl] at z
  exact Nat.ne_of_gt h (cl_kd_end.mpr (by omega))
theorem cl_end_lt {t o : rf_W} (hT : rf_To o) (h : 0 < cl_kd t (rf_e o) (rf_SB t o)) : rf_p (rf_oBl t o) < rf_e (rf_oBl t o) := by
  obtain ⟨a, b, _, d, e, f, g⟩ := rf_S_le (t := t) hT
  have := cl_end_n hT h
  rw [rf_p_bl hT, rf_e_bl] at this ⊢
  omega
theorem rf_e_59b {t o : rf_W} (_hT : rf_To o) : rf_e (rf_o59 (rf_oBl t o)) = rf_e (rf_oSig t o 59) := by
  rw [rf_e_sig, rf_e, rf_o59, rf_upd_ne (by decide)]; exact rf_e_bl
theorem rf_SB_59 {t o : rf_W} (hT : rf_To o) (h : rf_rSig t o 59 = true) : rf_SB t (rf_o59 (rf_oBl t o)) = rf_SB t (rf_oSig t o 59) := by
  obtain ⟨a, b, _, d, e, f, g⟩ := rf_S_le (t := t) hT
  rw [rf_SB_sig_t hT h, rf_SB, rf_e_59b hT, rf_e_sig, rf_p, rf_o59, rf_upd_eq, rf_p_bl hT, rf_nat_nI (by omega)]
theorem cl_sig_at {t o : rf_W} (hT : rf_To o) : rf_isAt t (rf_oBl t o) 59 59 = rf_rSig t o 59 := by rw [rf_isAt, rf_p_bl hT, rf_e_bl]; rfl
theorem cl_line_Ta {t q w : rf_W} {n : Nat} (hTa : rf_Ta q) (hn : n < 14) (h : (rf_lnW t (rf_oLe t q) w).1 = true) : rf_Ta (rf_lnW t (rf_oLe t q) w).2.1 := by
  have h2 := (rf_line_ok (t := t) (w := w) (n := n) (b := true) hTa).2
  rw [rf_line_w rfl hn] at h2
  exact (h2 h).2.1
theorem cl_lns_bad {t q w : rf_W} {n : Nat} (hn : n < 14) (h : (rf_lnW t (rf_oLe t q) w).1 = false) : rf_lns t true (15 - n) n q w = (0, (rf_lnW t (rf_oLe t q) w).2) := by
  rw [show 15 - n = (15 - (n + 1)) + 1 by omega, rf_lns, rf_line_w rfl hn, h]; rfl
theorem cl_lns_end {t q w : rf_W} {n : Nat} (hn : n < 14) (h : (rf_lnW t (rf_oLe t q) w).1 = true) (he : rf_p (rf_oBl t (rf_lnW t (rf_oLe t q) w).2.1) = rf_e (rf_oBl t (rf_lnW t (rf_oLe t q) w).2.1)) : rf_lns t true (15 - n) n q w = (n + 2, rf_oBl t (rf_lnW t (rf_oLe t q) w).2.1, (rf_lnW t (rf_oLe t q) w).2.2) := by
  rw [show 15 - n = (15 - (n + 1)) + 1 by omega, rf_lns, rf_line_w rfl hn, h, if_pos he]; rfl
theorem cl_lns_sig {t q w : rf_W} {n : Nat} (hn : n < 14) (h : (rf_lnW t (rf_oLe t q) w).1 = true) (he : ¬ rf_p (rf_oBl t (rf_lnW t (rf_oLe t q) w).2.1) = rf_e (rf_oBl t (rf_lnW t (rf_oLe t q) w).2.1)) (hT : rf_To (rf_lnW t (rf_oLe t q) w).2.1) (hs : rf_rSig t (rf_lnW t (rf_oLe t q) w).2.1 59 = false) : rf_lns t true (15 - n) n q w = (0, rf_oBl t (rf_lnW t (rf_oLe t q) w).2.1, (rf_lnW t (rf_oLe t q) w).2.2) := by
  rw [show 15 - n = (15 - (n + 1)) + 1 by omega, rf_lns, rf_line_w rfl hn, h, if_neg he, cl_sig_at hT, hs]; rfl
theorem cl_lns_go {t q w : rf_W} {n : Nat} (hn : n < 14) (h : (rf_lnW t (rf_oLe t q) w).1 = true) (he : ¬ rf_p (rf_oBl t (rf_lnW t (rf_oLe t q) w).2.1) = rf_e (rf_oBl t (rf_lnW t (rf_oLe t q) w).2.1)) (hT : rf_To (rf_lnW t (rf_oLe t q) w).2.1) (hs : rf_rSig t (rf_lnW t (rf_oLe t q) w).2.1 59 = true) : rf_lns t true (15 - n) n q w = rf_lns t true (15 - (n + 1)) (n + 1) (rf_o59 (rf_oBl t (rf_lnW t (rf_oLe t q) w).2.1)) (rf_lnW t (rf_oLe t q) w).2.2 := by
  rw [show 15 - n = (15 - (n + 1)) + 1 by omega, rf_lns, rf_line_w rfl hn, h, if_neg he, cl_sig_at hT, hs]; rfl
theorem cl_lns_14 {t q w : rf_W} {n : Nat} (hn : n = 14) : rf_lns t true (15 - n) n q w = (0, rf_oLe t q, w) := by
  rw [hn, show 15 - 14 = 0 + 1 from rfl, rf_lns, rf_line_w0 rfl (by omega)]; rfl
end M50

set_option maxHeartbeats 400000 in
set_option maxRecDepth 100000 in
theorem c_X9_readLine {ad : Nat → Nat} {r : am_R} (hR : am_rs r) {h : am_H}  (t : rf_W) (o : rf_W) (hT : rf_To o) (K : cl_tp (h) t (rf_e o) (rf_b o)) (hp : rf_p o = rf_run t (rf_e o) 97 122 (rf_b o)) (w : rf_W) (hV : rf_I w) (hLo : cl_Lo (h) 57 w) (hSc : cl_Sc (h) 78 w)  : am_CM mX9_readLine 9 0 0 [.ref 130] (am_VV ad) r h (am_pr (some (.int (am_b ((rf_lnW t o w).1)))) r (fun c9 => cl_LN (h) c9 t (rf_lnW t o w))) := by
  refine am_CM.of (by decide +kernel) (Nat.le_of_ble_eq_true rfl) (fun X C T => ?_)
  show am_G X (am_VV ad) (0, 0) 0 [(0, .ref 130)] [] r h
  have hM9 : rf_M w < 17 := hV.1.1.2
  have hS9 : rf_S w < 11 := hV.1.2.1.2
  have hO9 : rf_O w < 11 := hV.1.2.2.2
  refine am_aload_n (pc := 0) C dX9_readLine_0 rfl ?_
  refine am_getR (pc := 1) (j := 1) C dX9_readLine_1 f9_9 bn_130 sh_130 (rf_130_0 hR) ?_
  refine am_ldcs (pc := 4) (k := 0) (t := "memory") C dX9_readLine_4 (by decide) (List.mem_of_getElem? (i := 0) rfl) ?_
  refine am_callVi (Y := mX8_says) (pc := 6) (st := []) (As := [.ref (am_SB + 0)]) (x := (am_b (rf_isW t o 0))) (h2 := h) C dX9_readLine_6 k9_45 v_X8_says rfl rfl bn_1 sh_1 ⟨by decide, rfl⟩ (by decide) (Nat.zero_le _) (Nat.zero_le _) (Nat.le_of_ble_eq_true rfl) (c_X8_says_w (h := h) hR 0 t o (show cl_tp (h) t (rf_e o) (rf_b o) from K) (show rf_p o = rf_run t (rf_e o) 97 122 (rf_b o) from hp) (show 0 < am_TX.length from (by decide)) (show 0 < am_len 0 from (by decide +kernel))) ?_
  refine am_if_eqB (pc := 9) (tgt := 17) C dX9_readLine_9 (by decide) (fun q9 => ?_) (fun q9 => ?_)
  · skip
    refine am_aload_n (pc := 17) C dX9_readLine_17 rfl ?_
    refine am_getR (pc := 18) (j := 1) C dX9_readLine_18 f9_9 bn_130 sh_130 (rf_130_0 hR) ?_
    refine am_ldcs (pc := 21) (k := 2) (t := "soldier") C dX9_readLine_21 (by decide) (List.mem_of_getElem? (i := 2) rfl) ?_
    refine am_callVi (Y := mX8_says) (pc := 23) (st := []) (As := [.ref (am_SB + 2)]) (x := (am_b (rf_isW t o 2))) (h2 := h) C dX9_readLine_23 k9_45 v_X8_says rfl rfl bn_1 sh_1 ⟨by decide, rfl⟩ (by decide) (Nat.zero_le _) (Nat.zero_le _) (Nat.le_of_ble_eq_true rfl) (c_X8_says_w (h := h) hR 2 t o (show cl_tp (h) t (rf_e o) (rf_b o) from K) (show rf_p o = rf_run t (rf_e o) 97 122 (rf_b o) from hp) (show 2 < am_TX.length from (by decide)) (show 0 < am_len 2 from (by decide +kernel))) ?_
    refine am_if_eqB (pc := 26) (tgt := 34) C dX9_readLine_26 (by decide) (fun q26 => ?_) (fun q26 => ?_)
    · skip
      refine am_aload_n (pc := 34) C dX9_readLine_34 rfl ?_
      refine am_getR (pc := 35) (j := 1) C dX9_readLine_35 f9_9 bn_130 sh_130 (rf_130_0 hR) ?_
      refine am_ldcs (pc := 38) (k := 3) (t := "knows") C dX9_readLine_38 (by decide) (List.mem_of_getElem? (i := 3) rfl) ?_
      refine am_callVi (Y := mX8_says) (pc := 40) (st := []) (As := [.ref (am_SB + 3)]) (x := (am_b (rf_isW t o 3))) (h2 := h) C dX9_readLine_40 k9_45 v_X8_says rfl rfl bn_1 sh_1 ⟨by decide, rfl⟩ (by decide) (Nat.zero_le _) (Nat.zero_le _) (Nat.le_of_ble_eq_true rfl) (c_X8_says_w (h := h) hR 3 t o (show cl_tp (h) t (rf_e o) (rf_b o) from K) (show rf_p o = rf_run t (rf_e o) 97 122 (rf_b o) from hp) (show 3 < am_TX.length from (by decide)) (show 0 < am_len 3 from (by decide +kernel))) ?_
      refine am_if_eqB (pc := 43) (tgt := 51) C dX9_readLine_43 (by decide) (fun q43 => ?_) (fun q43 => ?_)
      · skip
        refine am_aload_n (pc := 51) C dX9_readLine_51 rfl ?_
        refine am_getR (pc := 52) (j := 1) C dX9_readLine_52 f9_9 bn_130 sh_130 (rf_130_0 hR) ?_
        refine am_ldcs (pc := 55) (k := 4) (t := "book") C dX9_readLine_55 (by decide) (List.mem_of_getElem? (i := 4) rfl) ?_
        refine am_callVi (Y := mX8_says) (pc := 57) (st := []) (As := [.ref (am_SB + 4)]) (x := (am_b (rf_isW t o 4))) (h2 := h) C dX9_readLine_57 k9_45 v_X8_says rfl rfl bn_1 sh_1 ⟨by decide, rfl⟩ (by decide) (Nat.zero_le _) (Nat.zero_le _) (Nat.le_of_ble_eq_true rfl) (c_X8_says_w (h := h) hR 4 t o (show cl_tp (h) t (rf_e o) (rf_b o) from K) (show rf_p o = rf_run t (rf_e o) 97 122 (rf_b o) from hp) (show 4 < am_TX.length from (by decide)) (show 0 < am_len 4 from (by decide +kernel))) ?_
        refine am_if_eqB (pc := 60) (tgt := 68) C dX9_readLine_60 (by decide) (fun q60 => ?_) (fun q60 => ?_)
        · skip
          refine am_aload_n (pc := 68) C dX9_readLine_68 rfl ?_
          refine am_getR (pc := 69) (j := 1) C dX9_readLine_69 f9_9 bn_130 sh_130 (rf_130_0 hR) ?_
          refine am_ldcs (pc := 72) (k := 5) (t := "order") C dX9_readLine_72 (by decide) (List.mem_of_getElem? (i := 5) rfl) ?_
          refine am_callVi (Y := mX8_says) (pc := 74) (st := []) (As := [.ref (am_SB + 5)]) (x := (am_b (rf_isW t o 5))) (h2 := h) C dX9_readLine_74 k9_45 v_X8_says rfl rfl bn_1 sh_1 ⟨by decide, rfl⟩ (by decide) (Nat.zero_le _) (Nat.zero_le _) (Nat.le_of_ble_eq_true rfl) (c_X8_says_w (h := h) hR 5 t o (show cl_tp (h) t (rf_e o) (rf_b o) from K) (show rf_p o = rf_run t (rf_e o) 97 122 (rf_b o) from hp) (show 5 < am_TX.length from (by decide)) (show 0 < am_len 5 from (by decide +kernel))) ?_
          refine am_if_eqB (pc := 77) (tgt := 85) C dX9_readLine_77 (by decide) (fun q77 => ?_) (fun q77 => ?_)
          · skip
            refine am_aload_n (pc := 85) C dX9_readLine_85 rfl ?_
            refine am_getR (pc := 86) (j := 1) C dX9_readLine_86 f9_9 bn_130 sh_130 (rf_130_0 hR) ?_
            refine am_ldcs (pc := 89) (k := 6) (t := "plan") C dX9_readLine_89 (by decide) (List.mem_of_getElem? (i := 6) rfl) ?_
            refine am_callVi (Y := mX8_says) (pc := 91) (st := []) (As := [.ref (am_SB + 6)]) (x := (am_b (rf_isW t o 6))) (h2 := h) C dX9_readLine_91 k9_45 v_X8_says rfl rfl bn_1 sh_1 ⟨by decide, rfl⟩ (by decide) (Nat.zero_le _) (Nat.zero_le _) (Nat.le_of_ble_eq_true rfl) (c_X8_says_w (h := h) hR 6 t o (show cl_tp (h) t (rf_e o) (rf_b o) from K) (show rf_p o = rf_run t (rf_e o) 97 122 (rf_b o) from hp) (show 6 < am_TX.length from (by decide)) (show 0 < am_len 6 from (by decide +kernel))) ?_
            refine am_if_eqB (pc := 94) (tgt := 102) C dX9_readLine_94 (by decide) (fun q94 => ?_) (fun q94 => ?_)
            · skip
              refine am_aload_n (pc := 102) C dX9_readLine_102 rfl ?_
              refine am_getR (pc := 103) (j := 1) C dX9_readLine_103 f9_9 bn_130 sh_130 (rf_130_0 hR) ?_
              refine am_ldcs (pc := 106) (k := 7) (t := "clash") C dX9_readLine_106 (by decide) (List.mem_of_getElem? (i := 7) rfl) ?_
              refine am_callVi (Y := mX8_says) (pc := 108) (st := []) (As := [.ref (am_SB + 7)]) (x := (am_b (rf_isW t o 7))) (h2 := h) C dX9_readLine_108 k9_45 v_X8_says rfl rfl bn_1 sh_1 ⟨by decide, rfl⟩ (by decide) (Nat.zero_le _) (Nat.zero_le _) (Nat.le_of_ble_eq_true rfl) (c_X8_says_w (h := h) hR 7 t o (show cl_tp (h) t (rf_e o) (rf_b o) from K) (show rf_p o = rf_run t (rf_e o) 97 122 (rf_b o) from hp) (show 7 < am_TX.length from (by decide)) (show 0 < am_len 7 from (by decide +kernel))) ?_
              refine am_if_eqB (pc := 111) (tgt := 125) C dX9_readLine_111 (by decide) (fun q111 => ?_) (fun q111 => ?_)
              · skip
                refine am_iconstN (pc := 125) (k := 0) C dX9_readLine_125 ?_
                have E9 : rf_lnW t o w = (false, o, w) := by rw [rf_lnW, q9, q26, q43, q60, q77, q94, q111]; rfl
                exact am_iretbr T dX9_readLine_126 rfl (Nat.le_refl _) (Nat.le_refl _) (by rw [E9]; rfl) rfl (by rw [E9]; exact ⟨fun z => absurd z Bool.false_ne_true, fun _ => cl_tp_b K, fun _ _ => rfl⟩)
              · skip
                refine am_aload_n (pc := 114) C dX9_readLine_114 rfl ?_
                refine am_callVir (Y := mX9_clashLine) (pc := 115) (st := []) (As := []) (x := (am_b ((rf_lnC t o w).1))) (PP := fun c9 => cl_LN (h) c9 t (rf_lnC t o w)) C dX9_readLine_115 k9_79 v_X9_clashLine rfl rfl bn_130 sh_130 ⟨by decide, rfl⟩ (by decide) (Nat.zero_le _) (Nat.zero_le _) (Nat.le_of_ble_eq_true rfl) (c_X9_clashLine (h := h) hR t o (show rf_To o from hT) (show cl_tp (h) t (rf_e o) (rf_b o) from K) (show cl_sp t (rf_e o) (rf_b o) = rf_p o from (cl_isW_sp q111 hp (by decide +kernel))) w (show rf_I w from hV) (show cl_Lo (h) 57 w from hLo) (show cl_Sc (h) 78 w from hSc)) (fun g115_0 hg115_0 => ?_)
                have G115 := hg115_0
                refine am_if_eqB (pc := 118) (tgt := 125) C dX9_readLine_118 (by decide) (fun q118 => ?_) (fun q118 => ?_)
                · skip
                  refine am_iconstN (pc := 125) (k := 0) C dX9_readLine_125 ?_
                  have E9 : rf_lnW t o w = rf_lnC t o w := by rw [rf_lnW, q9, q26, q43, q60, q77, q94, q111]; rfl
                  exact am_iretbr T dX9_readLine_126 rfl (Nat.le_refl _) (Nat.le_refl _) (by rw [E9, q118]; rfl) rfl (by rw [E9]; exact G115)
                · skip
                  refine am_iconstN (pc := 121) (k := 1) C dX9_readLine_121 ?_
                  refine am_goto (pc := 122) (tgt := 126) C dX9_readLine_122 (by decide) ?_
                  have E9 : rf_lnW t o w = rf_lnC t o w := by rw [rf_lnW, q9, q26, q43, q60, q77, q94, q111]; rfl
                  exact am_iretbr T dX9_readLine_126 rfl (Nat.le_refl _) (Nat.le_refl _) (by rw [E9, q118]; rfl) rfl (by rw [E9]; exact G115)
            · skip
              refine am_aload_n (pc := 97) C dX9_readLine_97 rfl ?_
              refine am_callVir (Y := mX9_planLine) (pc := 98) (st := []) (As := []) (x := (am_b ((rf_lnP t o w).1))) (PP := fun c9 => cl_LN (h) c9 t (rf_lnP t o w)) C dX9_readLine_98 k9_74 v_X9_planLine rfl rfl bn_130 sh_130 ⟨by decide, rfl⟩ (by decide) (Nat.zero_le _) (Nat.zero_le _) (Nat.le_of_ble_eq_true rfl) (c_X9_planLine (h := h) hR t o (show rf_To o from hT) (show cl_tp (h) t (rf_e o) (rf_b o) from K) (show cl_sp t (rf_e o) (rf_b o) = rf_p o from (cl_isW_sp q94 hp (by decide +kernel))) w (show rf_I w from hV) (show cl_Lo (h) 57 w from hLo) (show cl_Sc (h) 78 w from hSc)) (fun g98_1 hg98_1 => ?_)
              have G98 := hg98_1
              have E9 : rf_lnW t o w = rf_lnP t o w := by rw [rf_lnW, q9, q26, q43, q60, q77, q94]; rfl
              exact am_iretbr T dX9_readLine_101 rfl (Nat.le_refl _) (Nat.le_refl _) (by rw [E9]) rfl (by rw [E9]; exact G98)
          · skip
            refine am_aload_n (pc := 80) C dX9_readLine_80 rfl ?_
            refine am_callVir (Y := mX9_orderLine) (pc := 81) (st := []) (As := []) (x := (am_b ((rf_lnO t o w).1))) (PP := fun c9 => cl_LN (h) c9 t (rf_lnO t o w)) C dX9_readLine_81 k9_69 v_X9_orderLine rfl rfl bn_130 sh_130 ⟨by decide, rfl⟩ (by decide) (Nat.zero_le _) (Nat.zero_le _) (Nat.le_of_ble_eq_true rfl) (c_X9_orderLine (h := h) hR t o (show rf_To o from hT) (show cl_tp (h) t (rf_e o) (rf_b o) from K) (show cl_sp t (rf_e o) (rf_b o) = rf_p o from (cl_isW_sp q77 hp (by decide +kernel))) w (show rf_I w from hV) (show cl_Lo (h) 57 w from hLo) (show cl_Sc (h) 78 w from hSc)) (fun g81_2 hg81_2 => ?_)
            have G81 := hg81_2
            have E9 : rf_lnW t o w = rf_lnO t o w := by rw [rf_lnW, q9, q26, q43, q60, q77]; rfl
            exact am_iretbr T dX9_readLine_84 rfl (Nat.le_refl _) (Nat.le_refl _) (by rw [E9]) rfl (by rw [E9]; exact G81)
        · skip
          refine am_aload_n (pc := 63) C dX9_readLine_63 rfl ?_
          refine am_callVir (Y := mX9_bookLine) (pc := 64) (st := []) (As := []) (x := (am_b ((rf_lnB t o w).1))) (PP := fun c9 => cl_LN (h) c9 t (rf_lnB t o w)) C dX9_readLine_64 k9_64 v_X9_bookLine rfl rfl bn_130 sh_130 ⟨by decide, rfl⟩ (by decide) (Nat.zero_le _) (Nat.zero_le _) (Nat.le_of_ble_eq_true rfl) (c_X9_bookLine (h := h) hR t o (show rf_To o from hT) (show cl_tp (h) t (rf_e o) (rf_b o) from K) (show cl_sp t (rf_e o) (rf_b o) = rf_p o from (cl_isW_sp q60 hp (by decide +kernel))) w (show rf_I w from hV) (show cl_Lo (h) 57 w from hLo) (show cl_Sc (h) 78 w from hSc)) (fun g64_3 hg64_3 => ?_)
          have G64 := hg64_3
          have E9 : rf_lnW t o w = rf_lnB t o w := by rw [rf_lnW, q9, q26, q43, q60]; rfl
          exact am_iretbr T dX9_readLine_67 rfl (Nat.le_refl _) (Nat.le_refl _) (by rw [E9]) rfl (by rw [E9]; exact G64)
      · skip
        refine am_aload_n (pc := 46) C dX9_readLine_46 rfl ?_
        refine am_callVir (Y := mX9_knowsLine) (pc := 47) (st := []) (As := []) (x := (am_b ((rf_lnK t o w).1))) (PP := fun c9 => cl_LN (h) c9 t (rf_lnK t o w)) C dX9_readLine_47 k9_59 v_X9_knowsLine rfl rfl bn_130 sh_130 ⟨by decide, rfl⟩ (by decide) (Nat.zero_le _) (Nat.zero_le _) (Nat.le_of_ble_eq_true rfl) (c_X9_knowsLine (h := h) hR t o (show rf_To o from hT) (show cl_tp (h) t (rf_e o) (rf_b o) from K) (show cl_sp t (rf_e o) (rf_b o) = rf_p o from (cl_isW_sp q43 hp (by decide +kernel))) w (show rf_I w from hV) (show cl_Lo (h) 57 w from hLo) (show cl_Sc (h) 78 w from hSc)) (fun g47_4 hg47_4 => ?_)
        have G47 := hg47_4
        have E9 : rf_lnW t o w = rf_lnK t o w := by rw [rf_lnW, q9, q26, q43]; rfl
        exact am_iretbr T dX9_readLine_50 rfl (Nat.le_refl _) (Nat.le_refl _) (by rw [E9]) rfl (by rw [E9]; exact G47)
    · skip
      refine am_aload_n (pc := 29) C dX9_readLine_29 rfl ?_
      refine am_callVir (Y := mX9_soldierLine) (pc := 30) (st := []) (As := []) (x := (am_b ((rf_lnS t o w).1))) (PP := fun c9 => cl_LN (h) c9 t (rf_lnS t o w)) C dX9_readLine_30 k9_54 v_X9_soldierLine rfl rfl bn_130 sh_130 ⟨by decide, rfl⟩ (by decide) (Nat.zero_le _) (Nat.zero_le _) (Nat.le_of_ble_eq_true rfl) (c_X9_soldierLine (h := h) hR t o (show rf_To o from hT) (show cl_tp (h) t (rf_e o) (rf_b o) from K) (show cl_sp t (rf_e o) (rf_b o) = rf_p o from (cl_isW_sp q26 hp (by decide +kernel))) w (show rf_I w from hV) (show cl_Lo (h) 57 w from hLo) (show cl_Sc (h) 78 w from hSc)) (fun g30_5 hg30_5 => ?_)
      have G30 := hg30_5
      have E9 : rf_lnW t o w = rf_lnS t o w := by rw [rf_lnW, q9, q26]; rfl
      exact am_iretbr T dX9_readLine_33 rfl (Nat.le_refl _) (Nat.le_refl _) (by rw [E9]) rfl (by rw [E9]; exact G30)
  · skip
    refine am_aload_n (pc := 12) C dX9_readLine_12 rfl ?_
    refine am_callVir (Y := mX9_memoryLine) (pc := 13) (st := []) (As := []) (x := (am_b ((rf_lnM t o w).1))) (PP := fun c9 => cl_LN (h) c9 t (rf_lnM t o w)) C dX9_readLine_13 k9_49 v_X9_memoryLine rfl rfl bn_130 sh_130 ⟨by decide, rfl⟩ (by decide) (Nat.zero_le _) (Nat.zero_le _) (Nat.le_of_ble_eq_true rfl) (c_X9_memoryLine (h := h) hR t o (show rf_To o from hT) (show cl_tp (h) t (rf_e o) (rf_b o) from K) (show cl_sp t (rf_e o) (rf_b o) = rf_p o from (cl_isW_sp q9 hp (by decide +kernel))) w (show rf_I w from hV) (show cl_Lo (h) 57 w from hLo) (show cl_Sc (h) 78 w from hSc)) (fun g13_6 hg13_6 => ?_)
    have G13 := hg13_6
    have E9 : rf_lnW t o w = rf_lnM t o w := by rw [rf_lnW, q9]; rfl
    exact am_iretbr T dX9_readLine_16 rfl (Nat.le_refl _) (Nat.le_refl _) (by rw [E9]) rfl (by rw [E9]; exact G13)

set_option maxHeartbeats 400000 in
set_option maxRecDepth 100000 in
theorem c_X9_readAll {ad : Nat → Nat} {r : am_R} (hR : am_rs r) {h : am_H}  (t : rf_W) (o : rf_W) (hOb : rf_Ob o) (hz : (h 1) 1 = o 9) (hby : cl_by (h 2) t (rf_nat (o 9))) (w : rf_W) (hV : rf_I w) (hLo : cl_Lo (h) 57 w) (hSc : cl_Sc (h) 78 w)  : am_CM mX9_readAll 10 0 0 [.ref 130] (am_VV ad) r h (am_pr (some (.int (am_b (decide ((rf_all t true o w).1 ≠ 0))))) r (fun c9 => cl_AW (h) c9 w (rf_all t true o w))) := by
  refine am_CM.of (by decide +kernel) (Nat.le_of_ble_eq_true rfl) (fun X C T => ?_)
  show am_G X (am_VV ad) (0, 0) 0 [(0, .ref 130)] [] r h
  have hM9 : rf_M w < 17 := hV.1.1.2
  have hS9 : rf_S w < 11 := hV.1.2.1.2
  have hO9 : rf_O w < 11 := hV.1.2.2.2
  have hT0 := rf_Ta_0 hOb
  have hkd0 : cl_kd t (rf_e (rf_o0 o)) (rf_SB t (rf_o0 o)) < 4 := cl_kd_lt
  refine am_aload_n (pc := 0) C dX9_readAll_0 rfl ?_
  refine am_getR (pc := 1) (j := 1) C dX9_readAll_1 f9_9 bn_130 sh_130 (rf_130_0 hR) ?_
  refine am_callVvr (Y := mX8_open) (pc := 4) (st := []) (As := []) (PP := fun c9 => cl_to (c9) t (rf_o0 o) ∧ cl_fr (h) c9 1 1) C dX9_readAll_4 k9_26 v_X8_open rfl rfl bn_1 sh_1 ⟨by decide, rfl⟩ (by decide) (Nat.zero_le _) (Nat.zero_le _) (Nat.le_of_ble_eq_true rfl) (c_X8_open_o (h := h) hR t o (show rf_Ob o from hOb) (show (h 1) 1 = o 9 from hz) (show cl_by (h 2) t (rf_nat (o 9)) from hby)) (fun g4_0 hg4_0 => ?_)
  obtain ⟨K4, F4⟩ := hg4_0
  have L4 := cl_Lo_eq (fun i a b => F4 i (by omega)) hLo
  have S4 := cl_Sc_eq (fun i a b => F4 i (by omega)) hSc
  have W4 : cl_fwt h g4_0 := fun i h9 => (F4 i (by omega)).trans rfl
  refine am_aload_n (pc := 7) C dX9_readAll_7 rfl ?_
  refine am_getR (pc := 8) (j := 1) C dX9_readAll_8 f9_9 bn_130 sh_130 (rf_130_0 hR) ?_
  refine am_getI (pc := 11) C dX9_readAll_11 f9_31 bn_1 sh_1 ?_
  refine am_top (show ((g4_0 1) 2) = (nI (cl_kd t (rf_e (rf_o0 o)) (rf_SB t (rf_o0 o)))) from (cl_to_k K4)) ?_
  refine am_if_neN (pc := 14) (tgt := 19) C dX9_readAll_14 (by decide) (by omega) (fun q14 => ?_) (fun q14 => ?_)
  · skip
    refine am_iconstN (pc := 19) (k := 0) C dX9_readAll_19 ?_
    refine am_istore_n (pc := 20) (ls' := [(0, .ref 130), (1, .int (nI 0))]) C dX9_readAll_20 (by decide) rfl ?_
    have L21 : ∀ (j21 : Nat) (gk : am_H) (n : Nat) (q : rf_W) (wv : rf_W), (hnj : n + j21 = 14) → (hTa : rf_Ta q) → (hKq : cl_to gk t q) → (hIw : rf_I wv) → (hLk : cl_Lo gk 57 wv) → (hSk : cl_Sc gk 78 wv) → (hWk : cl_fwt h gk) → (hms : rf_all t true o w = rf_lns t true (15 - n) n q wv) → (hEw : rf_Ew w wv) → am_G X (am_VV ad) (0, 0) 21 [(0, .ref 130), (1, .int (nI n))] [] r gk := by
      intro j21
      induction j21 with
      | zero =>
        intro gk n q wv hnj hTa hKq hIw hLk hSk hWk hms hEw
        have hn14 : n = 14 := by omega
        refine am_iload_n (pc := 21) C dX9_readAll_21 rfl ?_
        refine am_bipush (pc := 22) (v := nI 14) C dX9_readAll_22 (by decide) ?_
        refine am_icmp_geN (pc := 24) (tgt := 68) C dX9_readAll_24 (by decide) (by omega) (by omega) (fun q24 => ?_) (fun q24 => ?_)
        · skip
          refine am_iconstN (pc := 68) (k := 0) C dX9_readAll_68 ?_
          have E9 : rf_all t true o w = (0, rf_oLe t q, wv) := hms.trans (cl_lns_14 hn14)
          exact am_iretbr T dX9_readAll_69 rfl (Nat.le_refl _) (Nat.le_refl _) (by rw [E9]; rfl) rfl (by rw [E9]; exact ⟨fun z => absurd rfl z, fun _ => (cl_to_b hKq).trans (congrArg nI (rf_b_le hTa.1).symm), (fun i h9 => hWk i h9)⟩)
        · skip
          exact absurd q24 (by omega)
      | succ j21 ih21 =>
        intro gk n q wv hnj hTa hKq hIw hLk hSk hWk hms hEw
        have hTl := rf_Ta_le (t := t) hTa
        refine am_iload_n (pc := 21) C dX9_readAll_21 rfl ?_
        refine am_bipush (pc := 22) (v := nI 14) C dX9_readAll_22 (by decide) ?_
        refine am_icmp_geN (pc := 24) (tgt := 68) C dX9_readAll_24 (by decide) (by omega) (by omega) (fun q24 => ?_) (fun q24 => ?_)
        · skip
          exact absurd q24 (by omega)
        · skip
          refine am_aload_n (pc := 27) C dX9_readAll_27 rfl ?_
          refine am_callVir (Y := mX9_readLine) (pc := 28) (st := []) (As := []) (x := (am_b ((rf_lnW t (rf_oLe t q) wv).1))) (PP := fun c9 => cl_LN (gk) c9 t (rf_lnW t (rf_oLe t q) wv)) C dX9_readAll_28 k9_35 v_X9_readLine rfl rfl bn_130 sh_130 ⟨by decide, rfl⟩ (by decide) (Nat.zero_le _) (Nat.zero_le _) (Nat.le_of_ble_eq_true rfl) (c_X9_readLine (h := gk) hR t (rf_oLe t q) (show rf_To (rf_oLe t q) from hTl.1) (show cl_tp (gk) t (rf_e (rf_oLe t q)) (rf_b (rf_oLe t q)) from (cl_tp_le hTa.1 hKq)) (show rf_p (rf_oLe t q) = rf_run t (rf_e (rf_oLe t q)) 97 122 (rf_b (rf_oLe t q)) from (cl_oLe_p hTa.1)) wv (show rf_I wv from hIw) (show cl_Lo (gk) 57 wv from hLk) (show cl_Sc (gk) 78 wv from hSk)) (fun g28_2 hg28_2 => ?_)
          obtain ⟨G28, B28, F28⟩ := hg28_2
          have W28 : cl_fwt h g28_2 := fun i h9 => (F28 i h9).trans (hWk i h9)
          refine am_if_neB (pc := 31) (tgt := 36) C dX9_readAll_31 (by decide) (fun q31 => ?_) (fun q31 => ?_)
          · skip
            have G28 := G28 q31
            have hI1 := rf_I_lnW hIw q31
            have hT1 : rf_Ta ((rf_lnW t (rf_oLe t q) wv).2.1) := cl_line_Ta hTa (by omega) q31
            have hkd1 : cl_kd t (rf_e ((rf_lnW t (rf_oLe t q) wv).2.1)) (rf_SB t ((rf_lnW t (rf_oLe t q) wv).2.1)) < 4 := cl_kd_lt
            refine am_aload_n (pc := 36) C dX9_readAll_36 rfl ?_
            refine am_getR (pc := 37) (j := 1) C dX9_readAll_37 f9_9 bn_130 sh_130 (rf_130_0 hR) ?_
            refine am_getI (pc := 40) C dX9_readAll_40 f9_31 bn_1 sh_1 ?_
            refine am_top (show ((g28_2 1) 2) = (nI (cl_kd t (rf_e ((rf_lnW t (rf_oLe t q) wv).2.1)) (rf_SB t ((rf_lnW t (rf_oLe t q) wv).2.1)))) from (cl_to_k G28.1)) ?_
            refine am_if_neN (pc := 43) (tgt := 48) C dX9_readAll_43 (by decide) (by omega) (fun q43 => ?_) (fun q43 => ?_)
            · skip
              refine am_aload_n (pc := 48) C dX9_readAll_48 rfl ?_
              refine am_getR (pc := 49) (j := 1) C dX9_readAll_49 f9_9 bn_130 sh_130 (rf_130_0 hR) ?_
              refine am_bipush (pc := 52) (v := nI 59) C dX9_readAll_52 (by decide) ?_
              refine am_callVir (Y := mX8_takeSign) (pc := 54) (st := []) (As := [.int (nI 59)]) (x := (am_b (rf_rSig t ((rf_lnW t (rf_oLe t q) wv).2.1) 59))) (PP := fun c9 => (rf_rSig t ((rf_lnW t (rf_oLe t q) wv).2.1) 59 = true → cl_to (c9) t (rf_oSig t ((rf_lnW t (rf_oLe t q) wv).2.1) 59)) ∧ (rf_rSig t ((rf_lnW t (rf_oLe t q) wv).2.1) 59 = false → c9 = (g28_2)) ∧ cl_fr (g28_2) c9 1 1) C dX9_readAll_54 k9_39 v_X8_takeSign rfl rfl bn_1 sh_1 ⟨by decide, rfl⟩ (by decide) (Nat.zero_le _) (Nat.zero_le _) (Nat.le_of_ble_eq_true rfl) (c_X8_takeSign_o (h := g28_2) hR 59 t ((rf_lnW t (rf_oLe t q) wv).2.1) (show cl_to (g28_2) t ((rf_lnW t (rf_oLe t q) wv).2.1) from G28.1) (show cl_sg 59 from (by unfold cl_sg; decide)) (show rf_To ((rf_lnW t (rf_oLe t q) wv).2.1) from hT1.1)) (fun g54_3 hg54_3 => ?_)
              have H54 := hg54_3
              refine am_if_neB (pc := 57) (tgt := 62) C dX9_readAll_57 (by decide) (fun q57 => ?_) (fun q57 => ?_)
              · skip
                refine am_iincN (pc := 62) (ls' := [(0, .ref 130), (1, .int (nI (n + 1)))]) C dX9_readAll_62 rfl (am_up1 _) (by decide) rfl ?_
                refine am_goto (pc := 65) (tgt := 21) C dX9_readAll_65 (by decide) ?_
                exact ih21 g54_3 (n + 1) (rf_o59 (rf_oBl t ((rf_lnW t (rf_oLe t q) wv).2.1))) ((rf_lnW t (rf_oLe t q) wv).2.2) (by omega) (rf_Ta_59 (rf_Ta_bl hT1) (cl_end_lt hT1.1 q43)) (cl_to_eq (H54.1 q57) (rf_e_59b hT1.1) (rf_SB_59 hT1.1 q57)) hI1.1 (cl_Lo_eq (fun i a b => H54.2.2 i (by omega)) G28.2.1) (cl_Sc_eq (fun i a b => H54.2.2 i (by omega)) G28.2.2) (fun i h9 => (H54.2.2 i (by omega)).trans (W28 i h9)) (hms.trans (cl_lns_go (by omega) q31 (cl_end_n hT1.1 q43) hT1.1 q57)) (hEw.tr hI1.2)
              · skip
                refine am_iconstN (pc := 60) (k := 0) C dX9_readAll_60 ?_
                have E9 : rf_all t true o w = (0, rf_oBl t ((rf_lnW t (rf_oLe t q) wv).2.1), (rf_lnW t (rf_oLe t q) wv).2.2) := hms.trans (cl_lns_sig (by omega) q31 (cl_end_n hT1.1 q43) hT1.1 q57)
                have e54 := H54.2.1 q57
                exact am_iretbr T dX9_readAll_61 rfl (Nat.le_refl _) (Nat.le_refl _) (by rw [E9]; rfl) rfl (by rw [E9]; exact ⟨fun z => absurd rfl z, fun _ => by rw [e54]; exact (cl_to_b G28.1).trans (congrArg nI (rf_b_bl hT1.1).symm), (fun i h9 => (H54.2.2 i (by omega)).trans (W28 i h9))⟩)
            · skip
              refine am_iconstN (pc := 46) (k := 1) C dX9_readAll_46 ?_
              have E9 : rf_all t true o w = (n + 2, rf_oBl t ((rf_lnW t (rf_oLe t q) wv).2.1), (rf_lnW t (rf_oLe t q) wv).2.2) := hms.trans (cl_lns_end (by omega) q31 (cl_end_y hT1.1 q43))
              exact am_iretbr T dX9_readAll_47 rfl (Nat.le_refl _) (Nat.le_refl _) (by rw [E9]; rfl) rfl (by rw [E9]; exact ⟨fun _ => ⟨G28.2.1, G28.2.2, hI1.1, hEw.tr hI1.2⟩, fun z => absurd z (Nat.succ_ne_zero _), (fun i h9 => W28 i h9)⟩)
          · skip
            refine am_iconstN (pc := 34) (k := 0) C dX9_readAll_34 ?_
            have E9 : rf_all t true o w = (0, (rf_lnW t (rf_oLe t q) wv).2) := hms.trans (cl_lns_bad (by omega) q31)
            exact am_iretbr T dX9_readAll_35 rfl (Nat.le_refl _) (Nat.le_refl _) (by rw [E9]; rfl) rfl (by rw [E9]; exact ⟨fun z => absurd rfl z, fun _ => B28 q31, (fun i h9 => W28 i h9)⟩)
    exact L21 14 g4_0 0 (rf_oBl t (rf_o0 o)) w (by omega) (rf_Ta_bl hT0) (cl_to_eq K4 rf_e_bl (rf_SB_bl hT0.1)) hV L4 S4 W4 (by rw [rf_all, if_neg (cl_end_n hT0.1 q14)]) rf_Ew.rf
  · skip
    refine am_iconstN (pc := 17) (k := 1) C dX9_readAll_17 ?_
    have E9 : rf_all t true o w = (1, rf_oBl t (rf_o0 o), w) := by rw [rf_all, if_pos (cl_end_y hT0.1 q14)]
    exact am_iretbr T dX9_readAll_18 rfl (Nat.le_refl _) (Nat.le_refl _) (by rw [E9]; rfl) rfl (by rw [E9]; exact ⟨fun _ => ⟨L4, S4, hV, rf_Ew.rf⟩, fun z => absurd z (Nat.succ_ne_zero 0), (fun i h9 => W4 i h9)⟩)

