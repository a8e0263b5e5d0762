/-! THE CLASS: a line of a law -/
section M54
def cl_Ln (h : am_H) (n : Nat) (w : rf_W) : Prop := (h 70) 0 = nI n ∧ ∀ m, m < n → (h 71) m = w (1581 + 4 * m) ∧ (h 72) m = w (1581 + 4 * m + 1) ∧ (h 73) m = w (1581 + 4 * m + 2) ∧ (h 74) m = w (1581 + 4 * m + 3)
def cl_fL (h c : am_H) : Prop := ∀ i, i ≠ 1 ∧ (i < 70 ∨ 76 ≤ i) → c i = h i
def cl_LL (h c : am_H) (t : rf_W) (n : Nat) (x : Bool × rf_W × rf_W) : Prop := (x.1 = true → cl_to c t x.2.1 ∧ cl_Ld c (rf_ems x.2.1) x.2.2 ∧ cl_Ln c (n + 1) x.2.2) ∧ (x.1 = false → (c 1) 3 = nI (rf_b x.2.1)) ∧ cl_fL h c
theorem cl_fl_L {h g : am_H} (W : cl_fl h g) : cl_fL h g := fun i hi => W.2 i (by omega)
theorem cl_Ln_W {h g : am_H} {n : Nat} {w : rf_W} (L : cl_Ln h n w) (W : cl_fl h g) : cl_Ln g n w := ⟨W.1.trans L.1, fun m hm => by rw [W.2 71 (by omega), W.2 72 (by omega), W.2 73 (by omega), W.2 74 (by omega)]; exact L.2 m hm⟩
theorem cl_Ln_n {g : am_H} {n : Nat} {w : rf_W} (hn : n < 12) (L : cl_Ln g n w) : rf_n ((g 70) 0) 12 := by rw [L.1]; exact rf_n_mk hn (by omega)
theorem cl_Ld_lo {g : am_H} {n : Nat} {w w' : rf_W} (e : ∀ c, 1629 ≤ c → w' c = w c) (D : cl_Ld g n w) : cl_Ld g n w' := by
  refine ⟨D.1, fun i hi => ?_⟩
  rw [D.2 i hi, cl_op, cl_op, rf_sc, rf_sc, show rf_sh w' (780 + 2 * i) = rf_sh w (780 + 2 * i) from e _ (by omega), show rf_sh w' (780 + 2 * i + 1) = rf_sh w (780 + 2 * i + 1) from e _ (by omega)]
theorem cl_kd_sp {t o : rf_W} (hp : rf_p o = rf_run t (rf_e o) 97 122 (rf_b o)) (h : rf_kd t o ≠ 0) : cl_sp t (rf_e o) (rf_b o) = rf_p o := by
  rw [rf_kd] at h
  cases e1 : rf_isW t o 10 with
  | true => exact cl_isW_sp e1 hp (by decide +kernel)
  | false =>
    cases e2 : rf_isW t o 11 with
    | true => exact cl_isW_sp e2 hp (by decide +kernel)
    | false =>
      cases e3 : rf_isW t o 12 with
      | true => exact cl_isW_sp e3 hp (by decide +kernel)
      | false => rw [e1, e2, e3] at h; exact absurd rfl h
theorem cl_LL_ok {h g : am_H} {t o w W' : rf_W} {n a b : Nat} {va vb : Int32} {x : Bool × rf_W × rf_W} (hx : x.1 = true) (hn : n < 12) (Ln : cl_Ln g n w) (W : cl_fl h g) (hlw : rf_lw (1581 + 4 * n) o w x (nI a) (nI b)) (hva : va = nI a) (hvb : vb = nI b) (K : cl_to g t x.2.1) (D : cl_Ld g (rf_ems x.2.1) W') (hW : ∀ c, 1629 ≤ c → x.2.2 c = W' c) : ∀ H : am_H, H = (am_row (am_row (am_row (am_row (am_row g 71 (upd (g 71) (rf_nat ((g 70) 0)) va)) 72 (upd (g 72) (rf_nat ((g 70) 0)) vb)) 73 (upd (g 73) (rf_nat ((g 70) 0)) (nI (rf_ems o)))) 74 (upd (g 74) (rf_nat ((g 70) 0)) ((g 70) 1))) 70 (upd (g 70) 0 (nI (rf_nat ((g 70) 0) + 1)))) → cl_LL h H t n x := by
  intro H hH
  obtain ⟨l1, l2, l3, l4, l5, l6, -⟩ := hlw
  have hm : rf_nat ((g 70) 0) = n := by rw [Ln.1, rf_nat_nI (by omega)]
  rw [hm] at hH
  have a70 : H 70 = upd (g 70) 0 (nI (n + 1)) := by rw [hH, am_row_at]
  have a71 : H 71 = upd (g 71) n va := by rw [hH, am_row_ne _ _ _ (by decide), am_row_ne _ _ _ (by decide), am_row_ne _ _ _ (by decide), am_row_ne _ _ _ (by decide), am_row_at]
  have a72 : H 72 = upd (g 72) n vb := by rw [hH, am_row_ne _ _ _ (by decide), am_row_ne _ _ _ (by decide), am_row_ne _ _ _ (by decide), am_row_at]
  have a73 : H 73 = upd (g 73) n (nI (rf_ems o)) := by rw [hH, am_row_ne _ _ _ (by decide), am_row_ne _ _ _ (by decide), am_row_at]
  have a74 : H 74 = upd (g 74) n ((g 70) 1) := by rw [hH, am_row_ne _ _ _ (by decide), am_row_at]
  have ao : ∀ i, i < 70 ∨ 75 ≤ i → H i = g i := fun i hi => by rw [hH, am_row_ne _ _ _ (by omega), am_row_ne _ _ _ (by omega), am_row_ne _ _ _ (by omega), am_row_ne _ _ _ (by omega), am_row_ne _ _ _ (by omega)]
  have D2 := cl_Ld_lo hW D
  refine ⟨fun _ => ⟨cl_to_h (ao 1 (by decide)) (ao 2 (by decide)) K, ⟨by rw [a70, rf_upd_ne (by decide)]; exact D2.1, fun i hi => by rw [ao 75 (by decide)]; exact D2.2 i hi⟩, by rw [a70, rf_upd_eq], fun m hm => ?_⟩, fun z => ?_, fun i hi => by rw [ao i (by omega)]; exact W.2 i (by omega)⟩
  · rw [a71, a72, a73, a74]
    by_cases e : m = n
    · rw [e, rf_upd_eq, rf_upd_eq, rf_upd_eq, rf_upd_eq, l1, l2, l3, l4]
      exact ⟨hva, hvb, rfl, D.1⟩
    · rw [rf_upd_ne e, rf_upd_ne e, rf_upd_ne e, rf_upd_ne e, l6 _ (by omega) (by omega), l6 _ (by omega) (by omega), l6 _ (by omega) (by omega), l6 _ (by omega) (by omega)]
      exact Ln.2 m (by omega)
  · exact absurd (hx.symm.trans z) (fun y => Bool.false_ne_true y.symm)
end M54

set_option maxHeartbeats 400000 in
set_option maxRecDepth 100000 in
theorem c_X2_lineKind {ad : Nat → Nat} {r : am_R} (hR : am_rs r) {h : am_H}  (t : rf_W) (o : rf_W) (K : cl_tp (h) t (rf_e o) (rf_b o)) (hp : rf_p o = rf_run t (rf_e o) 97 122 (rf_b o))  : am_CM mX2_lineKind 8 0 0 [.ref 131] (am_VV ad) r h (am_po (some (.int (am_oi (rf_kd t o)))) r h) := by
  refine am_CM.of (by decide +kernel) (Nat.le_of_ble_eq_true rfl) (fun X C T => ?_)
  show am_G X (am_VV ad) (0, 0) 0 [(0, .ref 131)] [] r h
  refine am_aload_n (pc := 0) C dX2_lineKind_0 rfl ?_
  refine am_getR (pc := 1) (j := 1) C dX2_lineKind_1 f2_9 bn_131 sh_131 (rf_131_0 hR) ?_
  refine am_ldcs (pc := 4) (k := 10) (t := "aim") C dX2_lineKind_4 (by decide) (List.mem_of_getElem? (i := 10) rfl) ?_
  refine am_callVi (Y := mX8_says) (pc := 6) (st := []) (As := [.ref (am_SB + 10)]) (x := (am_b (rf_isW t o 10))) (h2 := h) C dX2_lineKind_6 k2_60 v_X8_says rfl rfl bn_1 sh_1 ⟨by decide, rfl⟩ (by decide) (Nat.zero_le _) (Nat.zero_le _) (Nat.le_of_ble_eq_true rfl) (c_X8_says_w (h := h) hR 10 t o (show cl_tp (h) t (rf_e o) (rf_b o) from K) (show rf_p o = rf_run t (rf_e o) 97 122 (rf_b o) from hp) (show 10 < am_TX.length from (by decide)) (show 0 < am_len 10 from (by decide +kernel))) ?_
  refine am_if_eqB (pc := 9) (tgt := 14) C dX2_lineKind_9 (by decide) (fun q9 => ?_) (fun q9 => ?_)
  · skip
    refine am_aload_n (pc := 14) C dX2_lineKind_14 rfl ?_
    refine am_getR (pc := 15) (j := 1) C dX2_lineKind_15 f2_9 bn_131 sh_131 (rf_131_0 hR) ?_
    refine am_ldcs (pc := 18) (k := 11) (t := "good") C dX2_lineKind_18 (by decide) (List.mem_of_getElem? (i := 11) rfl) ?_
    refine am_callVi (Y := mX8_says) (pc := 20) (st := []) (As := [.ref (am_SB + 11)]) (x := (am_b (rf_isW t o 11))) (h2 := h) C dX2_lineKind_20 k2_60 v_X8_says rfl rfl bn_1 sh_1 ⟨by decide, rfl⟩ (by decide) (Nat.zero_le _) (Nat.zero_le _) (Nat.le_of_ble_eq_true rfl) (c_X8_says_w (h := h) hR 11 t o (show cl_tp (h) t (rf_e o) (rf_b o) from K) (show rf_p o = rf_run t (rf_e o) 97 122 (rf_b o) from hp) (show 11 < am_TX.length from (by decide)) (show 0 < am_len 11 from (by decide +kernel))) ?_
    refine am_if_eqB (pc := 23) (tgt := 28) C dX2_lineKind_23 (by decide) (fun q23 => ?_) (fun q23 => ?_)
    · skip
      refine am_aload_n (pc := 28) C dX2_lineKind_28 rfl ?_
      refine am_getR (pc := 29) (j := 1) C dX2_lineKind_29 f2_9 bn_131 sh_131 (rf_131_0 hR) ?_
      refine am_ldcs (pc := 32) (k := 12) (t := "read") C dX2_lineKind_32 (by decide) (List.mem_of_getElem? (i := 12) rfl) ?_
      refine am_callVi (Y := mX8_says) (pc := 34) (st := []) (As := [.ref (am_SB + 12)]) (x := (am_b (rf_isW t o 12))) (h2 := h) C dX2_lineKind_34 k2_60 v_X8_says rfl rfl bn_1 sh_1 ⟨by decide, rfl⟩ (by decide) (Nat.zero_le _) (Nat.zero_le _) (Nat.le_of_ble_eq_true rfl) (c_X8_says_w (h := h) hR 12 t o (show cl_tp (h) t (rf_e o) (rf_b o) from K) (show rf_p o = rf_run t (rf_e o) 97 122 (rf_b o) from hp) (show 12 < am_TX.length from (by decide)) (show 0 < am_len 12 from (by decide +kernel))) ?_
      refine am_if_eqB (pc := 37) (tgt := 44) C dX2_lineKind_37 (by decide) (fun q37 => ?_) (fun q37 => ?_)
      · skip
        refine am_iconst (pc := 44) (v := -1) C dX2_lineKind_44 rfl ?_
        exact am_ireti T dX2_lineKind_45 rfl (Nat.le_refl _) (Nat.le_refl _) (by rw [show rf_kd t o = 0 from (by rw [rf_kd, q9, q23, q37]; rfl), am_oi_0]) rfl rfl
      · skip
        refine am_iconstN (pc := 40) (k := 2) C dX2_lineKind_40 ?_
        refine am_goto (pc := 41) (tgt := 45) C dX2_lineKind_41 (by decide) ?_
        exact am_ireti T dX2_lineKind_45 rfl (Nat.le_refl _) (Nat.le_refl _) (by rw [show rf_kd t o = 2 + 1 from (by rw [rf_kd, q9, q23, q37]; rfl), am_oi_s]) rfl rfl
    · skip
      refine am_iconstN (pc := 26) (k := 1) C dX2_lineKind_26 ?_
      exact am_ireti T dX2_lineKind_27 rfl (Nat.le_refl _) (Nat.le_refl _) (by rw [show rf_kd t o = 1 + 1 from (by rw [rf_kd, q9, q23]; rfl), am_oi_s]) rfl rfl
  · skip
    refine am_iconstN (pc := 12) (k := 0) C dX2_lineKind_12 ?_
    exact am_ireti T dX2_lineKind_13 rfl (Nat.le_refl _) (Nat.le_refl _) (by rw [show rf_kd t o = 0 + 1 from (by rw [rf_kd, q9]; rfl), am_oi_s]) rfl rfl

set_option maxHeartbeats 400000 in
set_option maxRecDepth 100000 in
theorem c_X2_readLine {ad : Nat → Nat} {r : am_R} (hR : am_rs r) {h : am_H}  (t : rf_W) (o : rf_W) (n : Nat) (w : rf_W) (hTl : rf_Tl o) (K : cl_tp (h) t (rf_e o) (rf_b o)) (hp : rf_p o = rf_run t (rf_e o) 97 122 (rf_b o)) (D : cl_Ld (h) (rf_ems o) w) (hn : n < 12) (Ln : cl_Ln (h) n w)  : am_CM mX2_readLine 49 0 0 [.ref 131] (am_VV ad) r h (am_pr (some (.int (am_b ((rf_lnL t n o w).1)))) r (fun c9 => cl_LL (h) c9 t n (rf_lnL t n o w))) := by
  refine am_CM.of (by decide +kernel) (Nat.le_of_ble_eq_true rfl) (fun X C T => ?_)
  show am_G X (am_VV ad) (0, 0) 0 [(0, .ref 131)] [] r h
  have hkd := rf_kd_le (t := t) (o := o)
  have hnb := rf_num_b (t := t) (o := o) (low := 0) (high := nI 999)
  refine am_aload_n (pc := 0) C dX2_readLine_0 rfl ?_
  refine am_callVi (Y := mX2_lineKind) (pc := 1) (st := []) (As := []) (x := (am_oi (rf_kd t o))) (h2 := h) C dX2_readLine_1 k2_41 v_X2_lineKind rfl rfl bn_131 sh_131 ⟨by decide, rfl⟩ (by decide) (Nat.zero_le _) (Nat.zero_le _) (Nat.le_of_ble_eq_true rfl) (c_X2_lineKind (h := h) hR t o (show cl_tp (h) t (rf_e o) (rf_b o) from K) (show rf_p o = rf_run t (rf_e o) 97 122 (rf_b o) from hp)) ?_
  refine am_istore_n (pc := 4) (ls' := [(0, .ref 131), (1, .int (am_oi (rf_kd t o)))]) C dX2_readLine_4 (by decide) rfl ?_
  refine am_iload_n (pc := 5) C dX2_readLine_5 rfl ?_
  refine am_iconst (pc := 6) (v := -1) C dX2_readLine_6 rfl ?_
  refine am_icmp_neO (pc := 7) (tgt := 12) C dX2_readLine_7 (by decide) (by omega) (fun q7 => ?_) (fun q7 => ?_)
  · skip
    have hk0 : rf_kd t o ≠ 0 := by omega
    have hcr := rf_kd_cr hTl hk0
    refine am_lsv (ls' := [(0, .ref 131), (1, .int (nI (rf_kd t o - 1)))]) (congrArg (fun z9 : Int32 => ([(0, .ref 131), (1, Value.int z9)] : List (Nat × Value))) (show (am_oi (rf_kd t o)) = (nI (rf_kd t o - 1)) from (am_oi_p (by omega)))) ?_
    refine am_aload_n (pc := 12) C dX2_readLine_12 rfl ?_
    refine am_getR (pc := 13) (j := 1) C dX2_readLine_13 f2_9 bn_131 sh_131 (rf_131_0 hR) ?_
    refine am_callVvr (Y := mX8_advance) (pc := 16) (st := []) (As := []) (PP := fun c9 => cl_to (c9) t o ∧ cl_fr (h) c9 1 1) C dX2_readLine_16 k2_45 v_X8_advance rfl rfl bn_1 sh_1 ⟨by decide, rfl⟩ (by decide) (Nat.zero_le _) (Nat.zero_le _) (Nat.le_of_ble_eq_true rfl) (c_X8_adv_p (h := h) hR t o (show cl_tp (h) t (rf_e o) (rf_b o) from K) (show cl_sp t (rf_e o) (rf_b o) = rf_p o from (cl_kd_sp hp hk0)) (show rf_To o from hTl.1)) (fun g16_0 hg16_0 => ?_)
    obtain ⟨K16, F16⟩ := hg16_0
    have WW := cl_fl.rf.a F16
    have DW := D.a F16
    refine am_iconstN (pc := 19) (k := 1) C dX2_readLine_19 ?_
    refine am_istore_n (pc := 20) (ls' := [(0, .ref 131), (1, .int (nI (rf_kd t o - 1))), (2, .int (nI 1))]) C dX2_readLine_20 (by decide) rfl ?_
    refine am_iload_n (pc := 21) C dX2_readLine_21 rfl ?_
    refine am_iconstN (pc := 22) (k := 2) C dX2_readLine_22 ?_
    refine am_icmp_eqN (pc := 23) (tgt := 57) C dX2_readLine_23 (by decide) (by omega) (by omega) (fun q23 => ?_) (fun q23 => ?_)
    · skip
      obtain ⟨o1, w1, E8, hc1, K1, em1, hb1, hw1⟩ : ∃ o1 w1, rf_lnL t n o w = rf_lnJ t (1581 + 4 * n) o1 w1 ∧ rf_cr o1 ∧ cl_to g16_0 t o1 ∧ rf_ems o1 = rf_ems o ∧ rf_b o1 ≤ rf_p o1 ∧ (∀ c, 1629 ≤ c → w1 c = w c) := ⟨o, _, rf_lnL_3 (by omega), hcr, K16, rfl, hTl.2.2.1, fun c hc9 => by rw [rf_upd_ne (by omega), rf_upd_ne (by omega)]⟩
      have u1 := rf_Tc_dp (d := 0) hc1 hb1
      have cu := u1.cr hc1
      refine am_aload_n (pc := 57) C dX2_readLine_57 rfl ?_
      refine am_getR (pc := 58) (j := 70) C dX2_readLine_58 f2_15 bn_131 sh_131 (rf_131_1 hR) ?_
      refine am_getI (pc := 61) C dX2_readLine_61 f2_55 bn_70 sh_70 ?_
      refine am_top (show ((g16_0 70) 1) = (nI (rf_ems o)) from DW.1) ?_
      refine am_istore_n (pc := 64) (ls' := [(0, .ref 131), (1, .int (nI (rf_kd t o - 1))), (2, .int (nI 1)), (3, .int (nI (rf_ems o)))]) C dX2_readLine_64 (by decide) rfl ?_
      refine am_aload_n (pc := 65) C dX2_readLine_65 rfl ?_
      refine am_getR (pc := 66) (j := 1) C dX2_readLine_66 f2_9 bn_131 sh_131 (rf_131_0 hR) ?_
      refine am_ldcs (pc := 69) (k := 13) (t := "if") C dX2_readLine_69 (by decide) (List.mem_of_getElem? (i := 13) rfl) ?_
      refine am_callVi (Y := mX8_says) (pc := 71) (st := []) (As := [.ref (am_SB + 13)]) (x := (am_b (rf_rPas t (rf_dp o1 0) 13))) (h2 := g16_0) C dX2_readLine_71 k2_60 v_X8_says rfl rfl bn_1 sh_1 ⟨by decide, rfl⟩ (by decide) (Nat.zero_le _) (Nat.zero_le _) (Nat.le_of_ble_eq_true rfl) (c_X8_says_o (h := g16_0) hR 13 t (rf_dp o1 0) (show cl_to (g16_0) t (rf_dp o1 0) from (cl_to_eq K1 rf_e_dp rf_SB_dp)) (show 13 < am_TX.length from (by decide)) (show 0 < am_len 13 from (by decide +kernel))) ?_
      refine am_if_eqB (pc := 74) (tgt := 94) C dX2_readLine_74 (by decide) (fun q74 => ?_) (fun q74 => ?_)
      · skip
        have LnW := cl_Ln_W Ln WW
        have E9 : rf_lnL t n o w = (true, (rf_oPas t (rf_dp o1 0) 13), upd (upd w1 (1581 + 4 * n + 2) (nI (rf_ems o1))) (1581 + 4 * n + 3) (nI (rf_ems (rf_oPas t (rf_dp o1 0) 13)))) := E8.trans (rf_lnJ_n q74)
        obtain ⟨a, b, ha, ha3, hb, hb2, hbn, hlw⟩ := rf_lw_L hTl hn (show (rf_lnL t n o w).1 = true by rw [E9])
        refine am_aload_n (pc := 94) C dX2_readLine_94 rfl ?_
        refine am_getR (pc := 95) (j := 70) C dX2_readLine_95 f2_15 bn_131 sh_131 (rf_131_1 hR) ?_
        refine am_iload_n (pc := 98) C dX2_readLine_98 rfl ?_
        refine am_iload_n (pc := 99) C dX2_readLine_99 rfl ?_
        refine am_iload_n (pc := 100) C dX2_readLine_100 rfl ?_
        refine am_callVv (Y := mX1_addLine) (pc := 101) (st := []) (As := [.int (nI (rf_kd t o - 1)), .int (nI 1), .int (nI (rf_ems o))]) (h2 := (am_row (am_row (am_row (am_row (am_row g16_0 71 (upd (g16_0 71) (rf_nat ((g16_0 70) 0)) (nI (rf_kd t o - 1)))) 72 (upd (g16_0 72) (rf_nat ((g16_0 70) 0)) (nI 1))) 73 (upd (g16_0 73) (rf_nat ((g16_0 70) 0)) (nI (rf_ems o)))) 74 (upd (g16_0 74) (rf_nat ((g16_0 70) 0)) ((g16_0 70) 1))) 70 (upd (g16_0 70) 0 (nI (rf_nat ((g16_0 70) 0) + 1))))) C dX2_readLine_101 k2_67 v_X1_addLine rfl rfl bn_70 sh_70 ⟨by decide, rfl⟩ (by decide) (Nat.zero_le _) (Nat.zero_le _) (Nat.le_of_ble_eq_true rfl) (c_X1_addLine_d (h := g16_0) hR (nI (rf_kd t o - 1)) (nI 1) (nI (rf_ems o)) (show rf_n ((g16_0 70) 0) 12 from (cl_Ln_n hn LnW))) ?_
        refine am_iconstN (pc := 104) (k := 1) C dX2_readLine_104 ?_
        exact am_iretbr T dX2_readLine_105 rfl (Nat.le_refl _) (Nat.le_refl _) (by rw [E9]; rfl) rfl (by rw [E9] at hlw ⊢; exact cl_LL_ok rfl hn LnW WW hlw (congrArg nI (by omega)) (congrArg nI (by omega)) ((cl_to_eq K1 (rf_e_pas.trans rf_e_dp) ((rf_SB_pas_f cu.1 q74).trans rf_SB_dp))) (DW.n (rf_ems_pb.trans (rf_ems_dp.trans em1))) (fun c hc9 => (rf_upd_ne (by omega)).trans ((rf_upd_ne (by omega)).trans (hw1 c hc9))) _ rfl)
      · skip
        have hsq := rf_Tm_pas (t := t) (k := 13) cu.1
        have cs := hsq.cr cu
        have h13 : (rf_oPas t (rf_dp o1 0) 13) 13 = nI 0 := (hsq.2.2.1 13 (by decide) (by decide)).trans rf_dp_13
        refine am_aload_n (pc := 77) C dX2_readLine_77 rfl ?_
        refine am_getR (pc := 78) (j := 1) C dX2_readLine_78 f2_9 bn_131 sh_131 (rf_131_0 hR) ?_
        refine am_callVvr (Y := mX8_advance) (pc := 81) (st := []) (As := []) (PP := fun c9 => cl_to (c9) t (rf_oPas t (rf_dp o1 0) 13) ∧ cl_fr (g16_0) c9 1 1) C dX2_readLine_81 k2_45 v_X8_advance rfl rfl bn_1 sh_1 ⟨by decide, rfl⟩ (by decide) (Nat.zero_le _) (Nat.zero_le _) (Nat.le_of_ble_eq_true rfl) (c_X8_adv_k (h := g16_0) hR t (rf_dp o1 0) (show cl_to (g16_0) t (rf_dp o1 0) from (cl_to_eq K1 rf_e_dp rf_SB_dp)) (show rf_To (rf_dp o1 0) from cu.1) 13 (show 0 < am_len 13 from (by decide +kernel)) (show rf_rPas t (rf_dp o1 0) 13 = true from q74)) (fun g81_1 hg81_1 => ?_)
        obtain ⟨K81, F81⟩ := hg81_1
        have WW := WW.a F81
        have D81 := DW.a F81
        refine am_aload_n (pc := 84) C dX2_readLine_84 rfl ?_
        refine am_iconstN (pc := 85) (k := 0) C dX2_readLine_85 ?_
        refine am_callVir (Y := mX2_anyOf) (pc := 86) (st := []) (As := [.int (nI 0)]) (x := (am_b ((rf_cond t (rf_atom t 6) (rf_oPas t (rf_dp o1 0) 13) (upd w1 (1581 + 4 * n + 2) (nI (rf_ems o1)))).1))) (PP := fun c9 => cl_LS (g81_1) c9 t (rf_cond t (rf_atom t 6) (rf_oPas t (rf_dp o1 0) 13) (upd w1 (1581 + 4 * n + 2) (nI (rf_ems o1))))) C dX2_readLine_86 k2_64 v_X2_anyOf rfl rfl bn_131 sh_131 ⟨by decide, rfl⟩ (by decide) (Nat.zero_le _) (Nat.zero_le _) (Nat.le_of_ble_eq_true rfl) (c_X2_cond0 _ _ hR _ t (rf_oPas t (rf_dp o1 0) 13) (upd w1 (1581 + 4 * n + 2) (nI (rf_ems o1))) cs h13 K81 (cl_Ld_lo (fun c hc9 => by rw [rf_upd_ne (by omega)]; exact hw1 c hc9) (D81.n (rf_ems_pb.trans (rf_ems_dp.trans em1))))) (fun g86_2 hg86_2 => ?_)
        have G86 := hg86_2
        have WW := WW.tr G86.2.2
        refine am_if_neB (pc := 89) (tgt := 94) C dX2_readLine_89 (by decide) (fun q89 => ?_) (fun q89 => ?_)
        · skip
          have LnW := cl_Ln_W Ln WW
          have E9 : rf_lnL t n o w = (true, (rf_cond t (rf_atom t 6) (rf_oPas t (rf_dp o1 0) 13) (upd w1 (1581 + 4 * n + 2) (nI (rf_ems o1)))).2.1, upd (rf_cond t (rf_atom t 6) (rf_oPas t (rf_dp o1 0) 13) (upd w1 (1581 + 4 * n + 2) (nI (rf_ems o1)))).2.2 (1581 + 4 * n + 3) (nI (rf_ems (rf_cond t (rf_atom t 6) (rf_oPas t (rf_dp o1 0) 13) (upd w1 (1581 + 4 * n + 2) (nI (rf_ems o1)))).2.1))) := E8.trans (rf_lnJ_t q74 q89)
          obtain ⟨K86, D86⟩ := G86.1 q89
          obtain ⟨a, b, ha, ha3, hb, hb2, hbn, hlw⟩ := rf_lw_L hTl hn (show (rf_lnL t n o w).1 = true by rw [E9])
          refine am_aload_n (pc := 94) C dX2_readLine_94 rfl ?_
          refine am_getR (pc := 95) (j := 70) C dX2_readLine_95 f2_15 bn_131 sh_131 (rf_131_1 hR) ?_
          refine am_iload_n (pc := 98) C dX2_readLine_98 rfl ?_
          refine am_iload_n (pc := 99) C dX2_readLine_99 rfl ?_
          refine am_iload_n (pc := 100) C dX2_readLine_100 rfl ?_
          refine am_callVv (Y := mX1_addLine) (pc := 101) (st := []) (As := [.int (nI (rf_kd t o - 1)), .int (nI 1), .int (nI (rf_ems o))]) (h2 := (am_row (am_row (am_row (am_row (am_row g86_2 71 (upd (g86_2 71) (rf_nat ((g86_2 70) 0)) (nI (rf_kd t o - 1)))) 72 (upd (g86_2 72) (rf_nat ((g86_2 70) 0)) (nI 1))) 73 (upd (g86_2 73) (rf_nat ((g86_2 70) 0)) (nI (rf_ems o)))) 74 (upd (g86_2 74) (rf_nat ((g86_2 70) 0)) ((g86_2 70) 1))) 70 (upd (g86_2 70) 0 (nI (rf_nat ((g86_2 70) 0) + 1))))) C dX2_readLine_101 k2_67 v_X1_addLine rfl rfl bn_70 sh_70 ⟨by decide, rfl⟩ (by decide) (Nat.zero_le _) (Nat.zero_le _) (Nat.le_of_ble_eq_true rfl) (c_X1_addLine_d (h := g86_2) hR (nI (rf_kd t o - 1)) (nI 1) (nI (rf_ems o)) (show rf_n ((g86_2 70) 0) 12 from (cl_Ln_n hn LnW))) ?_
          refine am_iconstN (pc := 104) (k := 1) C dX2_readLine_104 ?_
          exact am_iretbr T dX2_readLine_105 rfl (Nat.le_refl _) (Nat.le_refl _) (by rw [E9]; rfl) rfl (by rw [E9] at hlw ⊢; exact cl_LL_ok rfl hn LnW WW hlw (congrArg nI (by omega)) (congrArg nI (by omega)) K86 D86 (fun c hc9 => rf_upd_ne (by omega)) _ rfl)
        · skip
          refine am_iconstN (pc := 92) (k := 0) C dX2_readLine_92 ?_
          have E9 : rf_lnL t n o w = (false, (rf_cond t (rf_atom t 6) (rf_oPas t (rf_dp o1 0) 13) (upd w1 (1581 + 4 * n + 2) (nI (rf_ems o1)))).2) := E8.trans (rf_lnJ_f q74 q89)
          exact am_iretbr T dX2_readLine_93 rfl (Nat.le_refl _) (Nat.le_refl _) (by rw [E9]; rfl) rfl (by rw [E9]; exact ⟨fun z => absurd z Bool.false_ne_true, fun _ => G86.2.1 q89, cl_fl_L WW⟩)
    · skip
      refine am_aload_n (pc := 26) C dX2_readLine_26 rfl ?_
      refine am_getR (pc := 27) (j := 1) C dX2_readLine_27 f2_9 bn_131 sh_131 (rf_131_0 hR) ?_
      refine am_iconstN (pc := 30) (k := 0) C dX2_readLine_30 ?_
      refine am_sipush (pc := 31) (v := nI 999) C dX2_readLine_31 (by decide) ?_
      refine am_callVi (Y := mX8_isNumber) (pc := 34) (st := []) (As := [.int (nI 0), .int (nI 999)]) (x := (am_b (decide (rf_rNum t o 0 (nI 999) ≠ 0)))) (h2 := g16_0) C dX2_readLine_34 k2_48 v_X8_isNumber rfl rfl bn_1 sh_1 ⟨by decide, rfl⟩ (by decide) (Nat.zero_le _) (Nat.zero_le _) (Nat.le_of_ble_eq_true rfl) (c_X8_isNumber_o (h := g16_0) hR 0 (nI 999) t o (show cl_to (g16_0) t o from K16) (show 0 < 1000 from (by decide))) ?_
      refine am_if_neB (pc := 37) (tgt := 42) C dX2_readLine_37 (by decide) (fun q37 => ?_) (fun q37 => ?_)
      · skip
        have hr0 : rf_rNum t o 0 (nI 999) ≠ 0 := of_decide_eq_true q37
        refine am_aload_n (pc := 42) C dX2_readLine_42 rfl ?_
        refine am_getR (pc := 43) (j := 1) C dX2_readLine_43 f2_9 bn_131 sh_131 (rf_131_0 hR) ?_
        refine am_getI (pc := 46) C dX2_readLine_46 f2_52 bn_1 sh_1 ?_
        refine am_top (show ((g16_0 1) 5) = (nI (rf_rNum t o 0 (nI 999) - 1)) from (cl_to_v K16 (by decide) hr0)) ?_
        refine am_istore_n (pc := 49) (ls' := [(0, .ref 131), (1, .int (nI (rf_kd t o - 1))), (2, .int (nI (rf_rNum t o 0 (nI 999) - 1)))]) C dX2_readLine_49 (by decide) rfl ?_
        refine am_aload_n (pc := 50) C dX2_readLine_50 rfl ?_
        refine am_getR (pc := 51) (j := 1) C dX2_readLine_51 f2_9 bn_131 sh_131 (rf_131_0 hR) ?_
        refine am_callVvr (Y := mX8_advance) (pc := 54) (st := []) (As := []) (PP := fun c9 => cl_to (c9) t (rf_oNum t o) ∧ cl_fr (g16_0) c9 1 1) C dX2_readLine_54 k2_45 v_X8_advance rfl rfl bn_1 sh_1 ⟨by decide, rfl⟩ (by decide) (Nat.zero_le _) (Nat.zero_le _) (Nat.le_of_ble_eq_true rfl) (c_X8_adv_n (h := g16_0) hR t o (show cl_to (g16_0) t o from K16) (show rf_To o from hTl.1) 0 (nI 999) (show 0 < 1000 from (by decide)) (show rf_rNum t o 0 (nI 999) ≠ 0 from hr0)) (fun g54_3 hg54_3 => ?_)
        obtain ⟨K54, F54⟩ := hg54_3
        have WW := WW.a F54
        have DW := DW.a F54
        have hnm := rf_Tm_num (t := t) hTl.1
        obtain ⟨o1, w1, E8, hc1, K1, em1, hb1, hw1⟩ : ∃ o1 w1, rf_lnL t n o w = rf_lnJ t (1581 + 4 * n) o1 w1 ∧ rf_cr o1 ∧ cl_to g54_3 t o1 ∧ rf_ems o1 = rf_ems o ∧ rf_b o1 ≤ rf_p o1 ∧ (∀ c, 1629 ≤ c → w1 c = w c) := ⟨rf_oNum t o, _, rf_lnL_n hk0 (by omega) hr0, hnm.cr hcr, K54, rf_ems_pb, hnm.2.2.2, fun c hc9 => by rw [rf_upd_ne (by omega), rf_upd_ne (by omega)]⟩
        have u1 := rf_Tc_dp (d := 0) hc1 hb1
        have cu := u1.cr hc1
        refine am_aload_n (pc := 57) C dX2_readLine_57 rfl ?_
        refine am_getR (pc := 58) (j := 70) C dX2_readLine_58 f2_15 bn_131 sh_131 (rf_131_1 hR) ?_
        refine am_getI (pc := 61) C dX2_readLine_61 f2_55 bn_70 sh_70 ?_
        refine am_top (show ((g54_3 70) 1) = (nI (rf_ems o)) from DW.1) ?_
        refine am_istore_n (pc := 64) (ls' := [(0, .ref 131), (1, .int (nI (rf_kd t o - 1))), (2, .int (nI (rf_rNum t o 0 (nI 999) - 1))), (3, .int (nI (rf_ems o)))]) C dX2_readLine_64 (by decide) rfl ?_
        refine am_aload_n (pc := 65) C dX2_readLine_65 rfl ?_
        refine am_getR (pc := 66) (j := 1) C dX2_readLine_66 f2_9 bn_131 sh_131 (rf_131_0 hR) ?_
        refine am_ldcs (pc := 69) (k := 13) (t := "if") C dX2_readLine_69 (by decide) (List.mem_of_getElem? (i := 13) rfl) ?_
        refine am_callVi (Y := mX8_says) (pc := 71) (st := []) (As := [.ref (am_SB + 13)]) (x := (am_b (rf_rPas t (rf_dp o1 0) 13))) (h2 := g54_3) C dX2_readLine_71 k2_60 v_X8_says rfl rfl bn_1 sh_1 ⟨by decide, rfl⟩ (by decide) (Nat.zero_le _) (Nat.zero_le _) (Nat.le_of_ble_eq_true rfl) (c_X8_says_o (h := g54_3) hR 13 t (rf_dp o1 0) (show cl_to (g54_3) t (rf_dp o1 0) from (cl_to_eq K1 rf_e_dp rf_SB_dp)) (show 13 < am_TX.length from (by decide)) (show 0 < am_len 13 from (by decide +kernel))) ?_
        refine am_if_eqB (pc := 74) (tgt := 94) C dX2_readLine_74 (by decide) (fun q74 => ?_) (fun q74 => ?_)
        · skip
          have LnW := cl_Ln_W Ln WW
          have E9 : rf_lnL t n o w = (true, (rf_oPas t (rf_dp o1 0) 13), upd (upd w1 (1581 + 4 * n + 2) (nI (rf_ems o1))) (1581 + 4 * n + 3) (nI (rf_ems (rf_oPas t (rf_dp o1 0) 13)))) := E8.trans (rf_lnJ_n q74)
          obtain ⟨a, b, ha, ha3, hb, hb2, hbn, hlw⟩ := rf_lw_L hTl hn (show (rf_lnL t n o w).1 = true by rw [E9])
          refine am_aload_n (pc := 94) C dX2_readLine_94 rfl ?_
          refine am_getR (pc := 95) (j := 70) C dX2_readLine_95 f2_15 bn_131 sh_131 (rf_131_1 hR) ?_
          refine am_iload_n (pc := 98) C dX2_readLine_98 rfl ?_
          refine am_iload_n (pc := 99) C dX2_readLine_99 rfl ?_
          refine am_iload_n (pc := 100) C dX2_readLine_100 rfl ?_
          refine am_callVv (Y := mX1_addLine) (pc := 101) (st := []) (As := [.int (nI (rf_kd t o - 1)), .int (nI (rf_rNum t o 0 (nI 999) - 1)), .int (nI (rf_ems o))]) (h2 := (am_row (am_row (am_row (am_row (am_row g54_3 71 (upd (g54_3 71) (rf_nat ((g54_3 70) 0)) (nI (rf_kd t o - 1)))) 72 (upd (g54_3 72) (rf_nat ((g54_3 70) 0)) (nI (rf_rNum t o 0 (nI 999) - 1)))) 73 (upd (g54_3 73) (rf_nat ((g54_3 70) 0)) (nI (rf_ems o)))) 74 (upd (g54_3 74) (rf_nat ((g54_3 70) 0)) ((g54_3 70) 1))) 70 (upd (g54_3 70) 0 (nI (rf_nat ((g54_3 70) 0) + 1))))) C dX2_readLine_101 k2_67 v_X1_addLine rfl rfl bn_70 sh_70 ⟨by decide, rfl⟩ (by decide) (Nat.zero_le _) (Nat.zero_le _) (Nat.le_of_ble_eq_true rfl) (c_X1_addLine_d (h := g54_3) hR (nI (rf_kd t o - 1)) (nI (rf_rNum t o 0 (nI 999) - 1)) (nI (rf_ems o)) (show rf_n ((g54_3 70) 0) 12 from (cl_Ln_n hn LnW))) ?_
          refine am_iconstN (pc := 104) (k := 1) C dX2_readLine_104 ?_
          exact am_iretbr T dX2_readLine_105 rfl (Nat.le_refl _) (Nat.le_refl _) (by rw [E9]; rfl) rfl (by rw [E9] at hlw ⊢; exact cl_LL_ok rfl hn LnW WW hlw (congrArg nI (by omega)) (congrArg nI (by have := hbn (by omega); omega)) ((cl_to_eq K1 (rf_e_pas.trans rf_e_dp) ((rf_SB_pas_f cu.1 q74).trans rf_SB_dp))) (DW.n (rf_ems_pb.trans (rf_ems_dp.trans em1))) (fun c hc9 => (rf_upd_ne (by omega)).trans ((rf_upd_ne (by omega)).trans (hw1 c hc9))) _ rfl)
        · skip
          have hsq := rf_Tm_pas (t := t) (k := 13) cu.1
          have cs := hsq.cr cu
          have h13 : (rf_oPas t (rf_dp o1 0) 13) 13 = nI 0 := (hsq.2.2.1 13 (by decide) (by decide)).trans rf_dp_13
          refine am_aload_n (pc := 77) C dX2_readLine_77 rfl ?_
          refine am_getR (pc := 78) (j := 1) C dX2_readLine_78 f2_9 bn_131 sh_131 (rf_131_0 hR) ?_
          refine am_callVvr (Y := mX8_advance) (pc := 81) (st := []) (As := []) (PP := fun c9 => cl_to (c9) t (rf_oPas t (rf_dp o1 0) 13) ∧ cl_fr (g54_3) c9 1 1) C dX2_readLine_81 k2_45 v_X8_advance rfl rfl bn_1 sh_1 ⟨by decide, rfl⟩ (by decide) (Nat.zero_le _) (Nat.zero_le _) (Nat.le_of_ble_eq_true rfl) (c_X8_adv_k (h := g54_3) hR t (rf_dp o1 0) (show cl_to (g54_3) t (rf_dp o1 0) from (cl_to_eq K1 rf_e_dp rf_SB_dp)) (show rf_To (rf_dp o1 0) from cu.1) 13 (show 0 < am_len 13 from (by decide +kernel)) (show rf_rPas t (rf_dp o1 0) 13 = true from q74)) (fun g81_4 hg81_4 => ?_)
          obtain ⟨K81, F81⟩ := hg81_4
          have WW := WW.a F81
          have D81 := DW.a F81
          refine am_aload_n (pc := 84) C dX2_readLine_84 rfl ?_
          refine am_iconstN (pc := 85) (k := 0) C dX2_readLine_85 ?_
          refine am_callVir (Y := mX2_anyOf) (pc := 86) (st := []) (As := [.int (nI 0)]) (x := (am_b ((rf_cond t (rf_atom t 6) (rf_oPas t (rf_dp o1 0) 13) (upd w1 (1581 + 4 * n + 2) (nI (rf_ems o1)))).1))) (PP := fun c9 => cl_LS (g81_4) c9 t (rf_cond t (rf_atom t 6) (rf_oPas t (rf_dp o1 0) 13) (upd w1 (1581 + 4 * n + 2) (nI (rf_ems o1))))) C dX2_readLine_86 k2_64 v_X2_anyOf rfl rfl bn_131 sh_131 ⟨by decide, rfl⟩ (by decide) (Nat.zero_le _) (Nat.zero_le _) (Nat.le_of_ble_eq_true rfl) (c_X2_cond0 _ _ hR _ t (rf_oPas t (rf_dp o1 0) 13) (upd w1 (1581 + 4 * n + 2) (nI (rf_ems o1))) cs h13 K81 (cl_Ld_lo (fun c hc9 => by rw [rf_upd_ne (by omega)]; exact hw1 c hc9) (D81.n (rf_ems_pb.trans (rf_ems_dp.trans em1))))) (fun g86_5 hg86_5 => ?_)
          have G86 := hg86_5
          have WW := WW.tr G86.2.2
          refine am_if_neB (pc := 89) (tgt := 94) C dX2_readLine_89 (by decide) (fun q89 => ?_) (fun q89 => ?_)
          · skip
            have LnW := cl_Ln_W Ln WW
            have E9 : rf_lnL t n o w = (true, (rf_cond t (rf_atom t 6) (rf_oPas t (rf_dp o1 0) 13) (upd w1 (1581 + 4 * n + 2) (nI (rf_ems o1)))).2.1, upd (rf_cond t (rf_atom t 6) (rf_oPas t (rf_dp o1 0) 13) (upd w1 (1581 + 4 * n + 2) (nI (rf_ems o1)))).2.2 (1581 + 4 * n + 3) (nI (rf_ems (rf_cond t (rf_atom t 6) (rf_oPas t (rf_dp o1 0) 13) (upd w1 (1581 + 4 * n + 2) (nI (rf_ems o1)))).2.1))) := E8.trans (rf_lnJ_t q74 q89)
            obtain ⟨K86, D86⟩ := G86.1 q89
            obtain ⟨a, b, ha, ha3, hb, hb2, hbn, hlw⟩ := rf_lw_L hTl hn (show (rf_lnL t n o w).1 = true by rw [E9])
            refine am_aload_n (pc := 94) C dX2_readLine_94 rfl ?_
            refine am_getR (pc := 95) (j := 70) C dX2_readLine_95 f2_15 bn_131 sh_131 (rf_131_1 hR) ?_
            refine am_iload_n (pc := 98) C dX2_readLine_98 rfl ?_
            refine am_iload_n (pc := 99) C dX2_readLine_99 rfl ?_
            refine am_iload_n (pc := 100) C dX2_readLine_100 rfl ?_
            refine am_callVv (Y := mX1_addLine) (pc := 101) (st := []) (As := [.int (nI (rf_kd t o - 1)), .int (nI (rf_rNum t o 0 (nI 999) - 1)), .int (nI (rf_ems o))]) (h2 := (am_row (am_row (am_row (am_row (am_row g86_5 71 (upd (g86_5 71) (rf_nat ((g86_5 70) 0)) (nI (rf_kd t o - 1)))) 72 (upd (g86_5 72) (rf_nat ((g86_5 70) 0)) (nI (rf_rNum t o 0 (nI 999) - 1)))) 73 (upd (g86_5 73) (rf_nat ((g86_5 70) 0)) (nI (rf_ems o)))) 74 (upd (g86_5 74) (rf_nat ((g86_5 70) 0)) ((g86_5 70) 1))) 70 (upd (g86_5 70) 0 (nI (rf_nat ((g86_5 70) 0) + 1))))) C dX2_readLine_101 k2_67 v_X1_addLine rfl rfl bn_70 sh_70 ⟨by decide, rfl⟩ (by decide) (Nat.zero_le _) (Nat.zero_le _) (Nat.le_of_ble_eq_true rfl) (c_X1_addLine_d (h := g86_5) hR (nI (rf_kd t o - 1)) (nI (rf_rNum t o 0 (nI 999) - 1)) (nI (rf_ems o)) (show rf_n ((g86_5 70) 0) 12 from (cl_Ln_n hn LnW))) ?_
            refine am_iconstN (pc := 104) (k := 1) C dX2_readLine_104 ?_
            exact am_iretbr T dX2_readLine_105 rfl (Nat.le_refl _) (Nat.le_refl _) (by rw [E9]; rfl) rfl (by rw [E9] at hlw ⊢; exact cl_LL_ok rfl hn LnW WW hlw (congrArg nI (by omega)) (congrArg nI (by have := hbn (by omega); omega)) K86 D86 (fun c hc9 => rf_upd_ne (by omega)) _ rfl)
          · skip
            refine am_iconstN (pc := 92) (k := 0) C dX2_readLine_92 ?_
            have E9 : rf_lnL t n o w = (false, (rf_cond t (rf_atom t 6) (rf_oPas t (rf_dp o1 0) 13) (upd w1 (1581 + 4 * n + 2) (nI (rf_ems o1)))).2) := E8.trans (rf_lnJ_f q74 q89)
            exact am_iretbr T dX2_readLine_93 rfl (Nat.le_refl _) (Nat.le_refl _) (by rw [E9]; rfl) rfl (by rw [E9]; exact ⟨fun z => absurd z Bool.false_ne_true, fun _ => G86.2.1 q89, cl_fl_L WW⟩)
      · skip
        refine am_iconstN (pc := 40) (k := 0) C dX2_readLine_40 ?_
        have E9 := rf_lnL_n0 (t := t) (o := o) (w := w) (n := n) hk0 (by omega) (Classical.not_not.mp (of_decide_eq_false q37))
        exact am_iretbr T dX2_readLine_41 rfl (Nat.le_refl _) (Nat.le_refl _) (by rw [E9]; rfl) rfl (by rw [E9]; exact ⟨fun z => absurd z Bool.false_ne_true, fun _ => (cl_to_b K16).trans (congrArg nI (rf_b_num hTl.1).symm), cl_fl_L WW⟩)
  · skip
    refine am_iconstN (pc := 10) (k := 0) C dX2_readLine_10 ?_
    have E9 : rf_lnL t n o w = (false, o, upd w (1581 + 4 * n) (am_oi (rf_kd t o))) := rf_lnL_0 (by omega)
    exact am_iretbr T dX2_readLine_11 rfl (Nat.le_refl _) (Nat.le_refl _) (by rw [E9]; rfl) rfl (by rw [E9]; exact ⟨fun z => absurd z Bool.false_ne_true, fun _ => cl_tp_b K, fun _ _ => rfl⟩)

