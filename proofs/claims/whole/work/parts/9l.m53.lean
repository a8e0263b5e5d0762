/-! THE CLASS: atoms, by depth -/
section M53
theorem cl_pas_sig {t o : rf_W} {k c : Nat} (hc : cl_sg c) (hk : 0 < am_len k) (h : rf_rPas t o k = true) : rf_rSig t o c = false := by
  cases hs : rf_rSig t o c with
  | false => rfl
  | true =>
    have h3 : cl_kd t (rf_e o) (rf_SB t o) = 3 := cl_sg_3 hc hs
    have h1 : cl_kd t (rf_e o) (rf_SB t o) = 1 := Classical.byContradiction (fun z => absurd (h.symm.trans (cl_word_1 hk z)) (fun y => Bool.false_ne_true y.symm))
    omega
theorem rf_oPas_c {t o o' : rf_W} {k : Nat} {p b : Nat} (hb : rf_SB t o' = rf_SB t o) (he : rf_e o' = rf_e o) (ho : o' = rf_pb o p b) : rf_oPas t o' k = rf_oPas t o k := by
  have hl : rf_SL t o' = rf_SL t o := by
    show rf_run t (rf_e o') 97 122 (rf_SB t o') = rf_run t (rf_e o) 97 122 (rf_SB t o)
    rw [he, hb]
  rw [rf_oPas, rf_oPas, rf_rPas_c he hb, hl, hb, ho, rf_pb_pb]
theorem cl_o2_eq {t o : rf_W} (hT : rf_To o) (h : rf_rSig t o 40 = false) : rf_o2 t o = rf_oPas t o 14 := rf_oPas_c (rf_SB_sig_f hT h) rf_e_sig rfl
theorem cl_o3_eq {t o : rf_W} (hT : rf_To o) (e2 : rf_o2 t o = rf_oPas t o 14) (h : rf_rPas t o 14 = false) : rf_o3 t o = rf_oPas t o 15 := by
  rw [rf_o3, e2]
  exact rf_oPas_c (rf_SB_pas_f hT h) rf_e_pas rfl
theorem cl_sig_sp {t o : rf_W} {c : Nat} (hc : cl_sg c) (hT : rf_To o) (h : rf_rSig t o c = true) : cl_sp t (rf_e o) (rf_SB t o) = rf_p (rf_oSig t o c) := by
  obtain ⟨x1, x2, x3, x4, x5, x6, x7⟩ := rf_S_le (t := t) hT
  rw [show cl_sp t (rf_e o) (rf_SB t o) = rf_SB t o + 1 from cl_sp_3 hc h, rf_oSig, h]
  exact (rf_p_pb (show rf_SB t o + 1 < _ by omega)).symm
end M53

set_option maxHeartbeats 400000 in
set_option maxRecDepth 100000 in
theorem c_X2_atom {ad : Nat → Nat} {r : am_R} (hR : am_rs r) {h : am_H} (dd : Nat) (Cc : rf_W → rf_Rd) (A : rf_W → rf_Rd) (dA : Nat) (dC : Nat) (d : Nat) (hd : 20 ≤ d) (hA2 : 20 ≤ dA) (hC2 : 20 ≤ dC) (hdA : dA ≤ d) (hdC : dC ≤ d) (hdd : dd ≤ 6) (hPC : dd ≠ 6 → cl_PC Cc (dd + 1) dC) (hPA : dd ≠ 6 → cl_PA A (dd + 1) dA) (hgC : ∀ t, dd ≠ 6 → rf_good (Cc t) (dd + 1)) (hgA : ∀ t, dd ≠ 6 → rf_good (A t) (dd + 1)) (t : rf_W) (o : rf_W) (w : rf_W) (hcr : rf_cr o) (K : cl_to (h) t o) (D : cl_Ld (h) (rf_ems o) w) (h13 : o 13 = nI dd)  : am_CM mX2_atom (d + 2) 0 0 [.ref 131, .int (nI dd)] (am_VV ad) r h (am_pr (some (.int (am_b ((rf_atm t dd (Cc t) (A t) o w).1)))) r (fun c9 => cl_LS (h) c9 t (rf_atm t dd (Cc t) (A t) o w))) := by
  refine am_CM.of (by decide +kernel) (Nat.le_of_ble_eq_true rfl) (fun X C T => ?_)
  show am_G X (am_VV ad) (0, 0) 0 [(0, .ref 131), (1, .int (nI dd))] [] r h
  have h1 := rf_Tm_sig (t := t) (c := 40) hcr.1
  have h2 := rf_Tm_pas (t := t) (k := 14) h1.1
  have h3 := rf_Tm_pas (t := t) (k := 15) h2.1
  have c1 := h1.cr hcr
  have c2 := h2.cr c1
  have c3 : rf_cr (rf_o3 t o) := h3.cr c2
  have hn4 : rf_ems o < 400 := hcr.n.2
  refine am_aload_n (pc := 0) C dX2_atom_0 rfl ?_
  refine am_getR (pc := 1) (j := 1) C dX2_atom_1 f2_9 bn_131 sh_131 (rf_131_0 hR) ?_
  refine am_ldcs (pc := 4) (k := 14) (t := "not") C dX2_atom_4 (by decide) (List.mem_of_getElem? (i := 14) rfl) ?_
  refine am_callVi (Y := mX8_says) (pc := 6) (st := []) (As := [.ref (am_SB + 14)]) (x := (am_b (rf_rPas t o 14))) (h2 := h) C dX2_atom_6 k2_60 v_X8_says rfl rfl bn_1 sh_1 ⟨by decide, rfl⟩ (by omega) (Nat.zero_le _) (Nat.zero_le _) (Nat.le_of_ble_eq_true rfl) (c_X8_says_o (h := h) hR 14 t o (show cl_to (h) t o from K) (show 14 < am_TX.length from (by decide)) (show 0 < am_len 14 from (by decide +kernel))) ?_
  refine am_if_eqB (pc := 9) (tgt := 34) C dX2_atom_9 (by decide) (fun q9 => ?_) (fun q9 => ?_)
  · skip
    refine am_aload_n (pc := 34) C dX2_atom_34 rfl ?_
    refine am_getR (pc := 35) (j := 1) C dX2_atom_35 f2_9 bn_131 sh_131 (rf_131_0 hR) ?_
    refine am_bipush (pc := 38) (v := nI 40) C dX2_atom_38 (by decide) ?_
    refine am_callVi (Y := mX8_isSign) (pc := 40) (st := []) (As := [.int (nI 40)]) (x := (am_b (rf_rSig t o 40))) (h2 := h) C dX2_atom_40 k2_96 v_X8_isSign rfl rfl bn_1 sh_1 ⟨by decide, rfl⟩ (by omega) (Nat.zero_le _) (Nat.zero_le _) (Nat.le_of_ble_eq_true rfl) (c_X8_isSign_o (h := h) hR 40 t o (show cl_to (h) t o from K) (show cl_sg 40 from (by unfold cl_sg; decide))) ?_
    refine am_if_eqB (pc := 43) (tgt := 68) C dX2_atom_43 (by decide) (fun q43 => ?_) (fun q43 => ?_)
    · skip
      have e14 : rf_rPas t (rf_oSig t o 40) 14 = false := (rf_rPas_c rf_e_sig (rf_SB_sig_f hcr.1 q43)).trans q9
      have eo2 : rf_o2 t o = rf_oPas t o 14 := cl_o2_eq hcr.1 q43
      have hb2 : rf_SB t (rf_o2 t o) = rf_SB t o := by rw [eo2]; exact rf_SB_pas_f hcr.1 q9
      have he2 : rf_e (rf_o2 t o) = rf_e o := by rw [eo2]; exact rf_e_pas
      refine am_aload_n (pc := 68) C dX2_atom_68 rfl ?_
      refine am_getR (pc := 69) (j := 1) C dX2_atom_69 f2_9 bn_131 sh_131 (rf_131_0 hR) ?_
      refine am_ldcs (pc := 72) (k := 15) (t := "alone") C dX2_atom_72 (by decide) (List.mem_of_getElem? (i := 15) rfl) ?_
      refine am_callVi (Y := mX8_says) (pc := 74) (st := []) (As := [.ref (am_SB + 15)]) (x := (am_b (rf_rPas t o 15))) (h2 := h) C dX2_atom_74 k2_60 v_X8_says rfl rfl bn_1 sh_1 ⟨by decide, rfl⟩ (by omega) (Nat.zero_le _) (Nat.zero_le _) (Nat.le_of_ble_eq_true rfl) (c_X8_says_o (h := h) hR 15 t o (show cl_to (h) t o from K) (show 15 < am_TX.length from (by decide)) (show 0 < am_len 15 from (by decide +kernel))) ?_
      refine am_if_eqB (pc := 77) (tgt := 99) C dX2_atom_77 (by decide) (fun q77 => ?_) (fun q77 => ?_)
      · skip
        have e15 : rf_rPas t (rf_o2 t o) 15 = false := (rf_rPas_c he2 hb2).trans q77
        have eo3 : rf_o3 t o = rf_oPas t o 15 := cl_o3_eq hcr.1 eo2 q9
        have he3 : rf_e (rf_o3 t o) = rf_e o := by rw [eo3]; exact rf_e_pas
        have hb3 : rf_SB t (rf_o3 t o) = rf_SB t o := by rw [eo3]; exact rf_SB_pas_f hcr.1 q77
        refine am_aload_n (pc := 99) C dX2_atom_99 rfl ?_
        refine am_callVir (Y := mX2_sum) (pc := 100) (st := []) (As := []) (x := (am_b ((rf_sum t (rf_o3 t o) w).1))) (PP := fun c9 => cl_LS (h) c9 t (rf_sum t (rf_o3 t o) w)) C dX2_atom_100 k2_104 v_X2_sum rfl rfl bn_131 sh_131 ⟨by decide, rfl⟩ (by omega) (Nat.zero_le _) (Nat.zero_le _) (Nat.le_of_ble_eq_true rfl) (c_X2_sum (h := h) hR t (rf_o3 t o) w (show rf_cr (rf_o3 t o) from c3) (show cl_to (h) t (rf_o3 t o) from (cl_to_eq K he3 hb3)) (show cl_Ld (h) (rf_ems (rf_o3 t o)) w from (D.n (rf_ems_pb.trans (rf_ems_pb.trans rf_ems_pb))))) (fun g100_0 hg100_0 => ?_)
        have G100 := hg100_0
        have W100 := G100.2.2
        refine am_if_neB (pc := 103) (tgt := 108) C dX2_atom_103 (by decide) (fun q103 => ?_) (fun q103 => ?_)
        · skip
          obtain ⟨K100, D100⟩ := G100.1 q103
          have gs := (rf_Tq_sum (t := t) (w := w) c3).2 q103
          have cg := gs.cr c3
          have s60 := rf_Tm_sig (t := t) (c := 60) cg.1
          have s62 := rf_Tm_sig (t := t) (c := 62) s60.1
          refine am_aload_n (pc := 108) C dX2_atom_108 rfl ?_
          refine am_getR (pc := 109) (j := 1) C dX2_atom_109 f2_9 bn_131 sh_131 (rf_131_0 hR) ?_
          refine am_bipush (pc := 112) (v := nI 60) C dX2_atom_112 (by decide) ?_
          refine am_callVi (Y := mX8_isSign) (pc := 114) (st := []) (As := [.int (nI 60)]) (x := (am_b (rf_rSig t ((rf_sum t (rf_o3 t o) w).2.1) 60))) (h2 := g100_0) C dX2_atom_114 k2_96 v_X8_isSign rfl rfl bn_1 sh_1 ⟨by decide, rfl⟩ (by omega) (Nat.zero_le _) (Nat.zero_le _) (Nat.le_of_ble_eq_true rfl) (c_X8_isSign_o (h := g100_0) hR 60 t ((rf_sum t (rf_o3 t o) w).2.1) (show cl_to (g100_0) t ((rf_sum t (rf_o3 t o) w).2.1) from K100) (show cl_sg 60 from (by unfold cl_sg; decide))) ?_
          refine am_if_eqB (pc := 117) (tgt := 126) C dX2_atom_117 (by decide) (fun q117 => ?_) (fun q117 => ?_)
          · skip
            have hb60 : rf_SB t (rf_oSig t (rf_sum t (rf_o3 t o) w).2.1 60) = rf_SB t (rf_sum t (rf_o3 t o) w).2.1 := rf_SB_sig_f cg.1 q117
            refine am_sipush (pc := 126) (v := nI 1010) C dX2_atom_126 (by decide) ?_
            refine am_istore_n (pc := 129) (ls' := [(0, .ref 131), (1, .int (nI dd)), (2, .int (nI 1010))]) C dX2_atom_129 (by decide) rfl ?_
            refine am_iload_n (pc := 130) C dX2_atom_130 rfl ?_
            refine am_sipush (pc := 131) (v := nI 1010) C dX2_atom_131 (by decide) ?_
            refine am_icmp_neN (pc := 134) (tgt := 151) C dX2_atom_134 (by decide) (by omega) (by omega) (fun q134 => ?_) (fun q134 => ?_)
            · skip
              exact absurd rfl q134
            · skip
              refine am_aload_n (pc := 137) C dX2_atom_137 rfl ?_
              refine am_getR (pc := 138) (j := 1) C dX2_atom_138 f2_9 bn_131 sh_131 (rf_131_0 hR) ?_
              refine am_bipush (pc := 141) (v := nI 62) C dX2_atom_141 (by decide) ?_
              refine am_callVi (Y := mX8_isSign) (pc := 143) (st := []) (As := [.int (nI 62)]) (x := (am_b (rf_rSig t ((rf_sum t (rf_o3 t o) w).2.1) 62))) (h2 := g100_0) C dX2_atom_143 k2_96 v_X8_isSign rfl rfl bn_1 sh_1 ⟨by decide, rfl⟩ (by omega) (Nat.zero_le _) (Nat.zero_le _) (Nat.le_of_ble_eq_true rfl) (c_X8_isSign_o (h := g100_0) hR 62 t ((rf_sum t (rf_o3 t o) w).2.1) (show cl_to (g100_0) t ((rf_sum t (rf_o3 t o) w).2.1) from K100) (show cl_sg 62 from (by unfold cl_sg; decide))) ?_
              refine am_if_neB (pc := 146) (tgt := 151) C dX2_atom_146 (by decide) (fun q146 => ?_) (fun q146 => ?_)
              · skip
                have e62 : rf_rSig t (rf_oSig t (rf_sum t (rf_o3 t o) w).2.1 60) 62 = true := (rf_rSig_c rf_e_sig hb60).trans q146
                obtain ⟨oN, op, hsN, heN, hcN, hemN, E8, hopN⟩ : ∃ oN op, cl_sp t (rf_e (rf_sum t (rf_o3 t o) w).2.1) (rf_SB t (rf_sum t (rf_o3 t o) w).2.1) = rf_p oN ∧ rf_e oN = rf_e (rf_sum t (rf_o3 t o) w).2.1 ∧ rf_cr oN ∧ rf_ems oN = rf_ems (rf_sum t (rf_o3 t o) w).2.1 ∧ rf_atm t dd (Cc t) (A t) o w = rf_at2 t op oN (rf_sum t (rf_o3 t o) w).2.2 ∧ nI 1010 = cl_oc (nI op) (nI 0) := ⟨_, 11, (by rw [← hb60, ← rf_e_sig (t := t) (o := (rf_sum t (rf_o3 t o) w).2.1) (c := 60)]; exact cl_sig_sp (by unfold cl_sg; decide) s60.1 e62), rf_e_sig.trans rf_e_sig, s62.cr (s60.cr cg), rf_ems_pb.trans rf_ems_pb, by rw [rf_atm_0 q43 e14 e15, rf_at0_t q103, rf_at1_m q117 e62], (by rw [cl_oc, rf_nat_nI (by decide), if_neg (by decide), if_neg (by decide)])⟩
                refine am_aload_n (pc := 151) C dX2_atom_151 rfl ?_
                refine am_getR (pc := 152) (j := 1) C dX2_atom_152 f2_9 bn_131 sh_131 (rf_131_0 hR) ?_
                refine am_callVvr (Y := mX8_advance) (pc := 155) (st := []) (As := []) (PP := fun c9 => cl_to (c9) t oN ∧ cl_fr (g100_0) c9 1 1) C dX2_atom_155 k2_45 v_X8_advance rfl rfl bn_1 sh_1 ⟨by decide, rfl⟩ (by omega) (Nat.zero_le _) (Nat.zero_le _) (Nat.le_of_ble_eq_true rfl) (c_X8_adv_x (h := g100_0) hR t ((rf_sum t (rf_o3 t o) w).2.1) oN (show cl_to (g100_0) t ((rf_sum t (rf_o3 t o) w).2.1) from K100) (show rf_e oN = rf_e ((rf_sum t (rf_o3 t o) w).2.1) from heN) (show cl_sp t (rf_e ((rf_sum t (rf_o3 t o) w).2.1)) (rf_SB t ((rf_sum t (rf_o3 t o) w).2.1)) = rf_p oN from hsN) (show rf_To oN from hcN.1)) (fun g155_1 hg155_1 => ?_)
                obtain ⟨K155, F155⟩ := hg155_1
                have W155 := W100.a F155
                refine am_aload_n (pc := 158) C dX2_atom_158 rfl ?_
                refine am_callVir (Y := mX2_sum) (pc := 159) (st := []) (As := []) (x := (am_b ((rf_sum t oN ((rf_sum t (rf_o3 t o) w).2.2)).1))) (PP := fun c9 => cl_LS (g155_1) c9 t (rf_sum t oN ((rf_sum t (rf_o3 t o) w).2.2))) C dX2_atom_159 k2_104 v_X2_sum rfl rfl bn_131 sh_131 ⟨by decide, rfl⟩ (by omega) (Nat.zero_le _) (Nat.zero_le _) (Nat.le_of_ble_eq_true rfl) (c_X2_sum (h := g155_1) hR t oN ((rf_sum t (rf_o3 t o) w).2.2) (show rf_cr oN from hcN) (show cl_to (g155_1) t oN from K155) (show cl_Ld (g155_1) (rf_ems oN) ((rf_sum t (rf_o3 t o) w).2.2) from ((D100.a F155).n hemN))) (fun g159_2 hg159_2 => ?_)
                have G159 := hg159_2
                have W159 := W155.tr G159.2.2
                refine am_if_neB (pc := 162) (tgt := 167) C dX2_atom_162 (by decide) (fun q162 => ?_) (fun q162 => ?_)
                · skip
                  obtain ⟨K159, D159⟩ := G159.1 q162
                  refine am_aload_n (pc := 167) C dX2_atom_167 rfl ?_
                  refine am_getR (pc := 168) (j := 70) C dX2_atom_168 f2_15 bn_131 sh_131 (rf_131_1 hR) ?_
                  refine am_iload_n (pc := 171) C dX2_atom_171 rfl ?_
                  refine am_callVvr (Y := mX1_emit) (pc := 172) (st := []) (As := [.int (nI 1010)]) (PP := fun c9 => cl_Ld c9 ((rf_ems (rf_sum t oN (rf_sum t (rf_o3 t o) w).2.2).2.1) + 1) (rf_wE (rf_ems (rf_sum t oN (rf_sum t (rf_o3 t o) w).2.2).2.1) ((rf_sum t oN (rf_sum t (rf_o3 t o) w).2.2).2.2) (nI op) (nI 0)) ∧ cl_fe (g159_2) c9) C dX2_atom_172 k2_82 v_X1_emit rfl rfl bn_70 sh_70 ⟨by decide, rfl⟩ (by omega) (Nat.zero_le _) (Nat.zero_le _) (Nat.le_of_ble_eq_true rfl) (c_X1_emit_o (h := g159_2) hR (nI 1010) (rf_ems (rf_sum t oN (rf_sum t (rf_o3 t o) w).2.2).2.1) ((rf_sum t oN (rf_sum t (rf_o3 t o) w).2.2).2.2) (show cl_Ld (g159_2) (rf_ems (rf_sum t oN (rf_sum t (rf_o3 t o) w).2.2).2.1) ((rf_sum t oN (rf_sum t (rf_o3 t o) w).2.2).2.2) from D159) (show (rf_ems (rf_sum t oN (rf_sum t (rf_o3 t o) w).2.2).2.1) < 400 from (((rf_Tq_sum hcN).2 q162).cr hcN).n.2) (nI op) (nI 0) (show (nI 1010) = cl_oc (nI op) (nI 0) from hopN)) (fun g172_3 hg172_3 => ?_)
                  obtain ⟨D172, F172⟩ := hg172_3
                  have W172 := W159.e F172
                  refine am_iconstN (pc := 175) (k := 1) C dX2_atom_175 ?_
                  have E9 : rf_atm t dd (Cc t) (A t) o w = (true, rf_oEm (rf_sum t oN (rf_sum t (rf_o3 t o) w).2.2).2.1, rf_wEm (rf_sum t oN (rf_sum t (rf_o3 t o) w).2.2).2.1 (rf_sum t oN (rf_sum t (rf_o3 t o) w).2.2).2.2 (nI op) (nI 0)) := E8.trans (by rw [rf_at2, q162]; rfl)
                  exact am_iretbr T dX2_atom_176 rfl (Nat.le_refl _) (Nat.le_refl _) (by rw [E9]; rfl) rfl (by rw [E9]; exact ⟨fun _ => ⟨cl_to_eq (K159.e F172) rf_e_em rf_SB_em, D172.n (rf_ems_em (by have := (((rf_Tq_sum hcN).2 q162).cr hcN).n.2; exact Nat.lt_trans this (by decide)))⟩, fun z => absurd z (fun y => Bool.false_ne_true y.symm), W172⟩)
                · skip
                  refine am_iconstN (pc := 165) (k := 0) C dX2_atom_165 ?_
                  have E9 : rf_atm t dd (Cc t) (A t) o w = (false, (rf_sum t oN (rf_sum t (rf_o3 t o) w).2.2).2) := E8.trans (by rw [rf_at2, q162]; rfl)
                  exact am_iretbr T dX2_atom_166 rfl (Nat.le_refl _) (Nat.le_refl _) (by rw [E9]; rfl) rfl (by rw [E9]; exact ⟨fun z => absurd z Bool.false_ne_true, fun _ => G159.2.1 q162, W159⟩)
              · skip
                refine am_iconstN (pc := 149) (k := 0) C dX2_atom_149 ?_
                have E9 : rf_atm t dd (Cc t) (A t) o w = (false, rf_oSig t (rf_oSig t (rf_sum t (rf_o3 t o) w).2.1 60) 62, (rf_sum t (rf_o3 t o) w).2.2) := by rw [rf_atm_0 q43 e14 e15, rf_at0_t q103, rf_at1, q117, (rf_rSig_c rf_e_sig hb60).trans q146]; rfl
                exact am_iretbr T dX2_atom_150 rfl (Nat.le_refl _) (Nat.le_refl _) (by rw [E9]; rfl) rfl (by rw [E9]; exact ⟨fun z => absurd z Bool.false_ne_true, fun _ => (cl_to_b K100).trans (congrArg nI ((rf_b_sig s60.1).trans hb60).symm), W100⟩)
          · skip
            obtain ⟨oN, op, hsN, heN, hcN, hemN, E8, hopN⟩ : ∃ oN op, cl_sp t (rf_e (rf_sum t (rf_o3 t o) w).2.1) (rf_SB t (rf_sum t (rf_o3 t o) w).2.1) = rf_p oN ∧ rf_e oN = rf_e (rf_sum t (rf_o3 t o) w).2.1 ∧ rf_cr oN ∧ rf_ems oN = rf_ems (rf_sum t (rf_o3 t o) w).2.1 ∧ rf_atm t dd (Cc t) (A t) o w = rf_at2 t op oN (rf_sum t (rf_o3 t o) w).2.2 ∧ nI 1009 = cl_oc (nI op) (nI 0) := ⟨_, 10, (cl_sig_sp (by unfold cl_sg; decide) cg.1 q117), rf_e_sig, s60.cr cg, rf_ems_pb, by rw [rf_atm_0 q43 e14 e15, rf_at0_t q103, rf_at1_l q117], (by rw [cl_oc, rf_nat_nI (by decide), if_neg (by decide), if_neg (by decide)])⟩
            refine am_sipush (pc := 120) (v := nI 1009) C dX2_atom_120 (by decide) ?_
            refine am_goto (pc := 123) (tgt := 129) C dX2_atom_123 (by decide) ?_
            refine am_istore_n (pc := 129) (ls' := [(0, .ref 131), (1, .int (nI dd)), (2, .int (nI 1009))]) C dX2_atom_129 (by decide) rfl ?_
            refine am_iload_n (pc := 130) C dX2_atom_130 rfl ?_
            refine am_sipush (pc := 131) (v := nI 1010) C dX2_atom_131 (by decide) ?_
            refine am_icmp_neN (pc := 134) (tgt := 151) C dX2_atom_134 (by decide) (by omega) (by omega) (fun q134 => ?_) (fun q134 => ?_)
            · skip
              refine am_aload_n (pc := 151) C dX2_atom_151 rfl ?_
              refine am_getR (pc := 152) (j := 1) C dX2_atom_152 f2_9 bn_131 sh_131 (rf_131_0 hR) ?_
              refine am_callVvr (Y := mX8_advance) (pc := 155) (st := []) (As := []) (PP := fun c9 => cl_to (c9) t oN ∧ cl_fr (g100_0) c9 1 1) C dX2_atom_155 k2_45 v_X8_advance rfl rfl bn_1 sh_1 ⟨by decide, rfl⟩ (by omega) (Nat.zero_le _) (Nat.zero_le _) (Nat.le_of_ble_eq_true rfl) (c_X8_adv_x (h := g100_0) hR t ((rf_sum t (rf_o3 t o) w).2.1) oN (show cl_to (g100_0) t ((rf_sum t (rf_o3 t o) w).2.1) from K100) (show rf_e oN = rf_e ((rf_sum t (rf_o3 t o) w).2.1) from heN) (show cl_sp t (rf_e ((rf_sum t (rf_o3 t o) w).2.1)) (rf_SB t ((rf_sum t (rf_o3 t o) w).2.1)) = rf_p oN from hsN) (show rf_To oN from hcN.1)) (fun g155_4 hg155_4 => ?_)
              obtain ⟨K155, F155⟩ := hg155_4
              have W155 := W100.a F155
              refine am_aload_n (pc := 158) C dX2_atom_158 rfl ?_
              refine am_callVir (Y := mX2_sum) (pc := 159) (st := []) (As := []) (x := (am_b ((rf_sum t oN ((rf_sum t (rf_o3 t o) w).2.2)).1))) (PP := fun c9 => cl_LS (g155_4) c9 t (rf_sum t oN ((rf_sum t (rf_o3 t o) w).2.2))) C dX2_atom_159 k2_104 v_X2_sum rfl rfl bn_131 sh_131 ⟨by decide, rfl⟩ (by omega) (Nat.zero_le _) (Nat.zero_le _) (Nat.le_of_ble_eq_true rfl) (c_X2_sum (h := g155_4) hR t oN ((rf_sum t (rf_o3 t o) w).2.2) (show rf_cr oN from hcN) (show cl_to (g155_4) t oN from K155) (show cl_Ld (g155_4) (rf_ems oN) ((rf_sum t (rf_o3 t o) w).2.2) from ((D100.a F155).n hemN))) (fun g159_5 hg159_5 => ?_)
              have G159 := hg159_5
              have W159 := W155.tr G159.2.2
              refine am_if_neB (pc := 162) (tgt := 167) C dX2_atom_162 (by decide) (fun q162 => ?_) (fun q162 => ?_)
              · skip
                obtain ⟨K159, D159⟩ := G159.1 q162
                refine am_aload_n (pc := 167) C dX2_atom_167 rfl ?_
                refine am_getR (pc := 168) (j := 70) C dX2_atom_168 f2_15 bn_131 sh_131 (rf_131_1 hR) ?_
                refine am_iload_n (pc := 171) C dX2_atom_171 rfl ?_
                refine am_callVvr (Y := mX1_emit) (pc := 172) (st := []) (As := [.int (nI 1009)]) (PP := fun c9 => cl_Ld c9 ((rf_ems (rf_sum t oN (rf_sum t (rf_o3 t o) w).2.2).2.1) + 1) (rf_wE (rf_ems (rf_sum t oN (rf_sum t (rf_o3 t o) w).2.2).2.1) ((rf_sum t oN (rf_sum t (rf_o3 t o) w).2.2).2.2) (nI op) (nI 0)) ∧ cl_fe (g159_5) c9) C dX2_atom_172 k2_82 v_X1_emit rfl rfl bn_70 sh_70 ⟨by decide, rfl⟩ (by omega) (Nat.zero_le _) (Nat.zero_le _) (Nat.le_of_ble_eq_true rfl) (c_X1_emit_o (h := g159_5) hR (nI 1009) (rf_ems (rf_sum t oN (rf_sum t (rf_o3 t o) w).2.2).2.1) ((rf_sum t oN (rf_sum t (rf_o3 t o) w).2.2).2.2) (show cl_Ld (g159_5) (rf_ems (rf_sum t oN (rf_sum t (rf_o3 t o) w).2.2).2.1) ((rf_sum t oN (rf_sum t (rf_o3 t o) w).2.2).2.2) from D159) (show (rf_ems (rf_sum t oN (rf_sum t (rf_o3 t o) w).2.2).2.1) < 400 from (((rf_Tq_sum hcN).2 q162).cr hcN).n.2) (nI op) (nI 0) (show (nI 1009) = cl_oc (nI op) (nI 0) from hopN)) (fun g172_6 hg172_6 => ?_)
                obtain ⟨D172, F172⟩ := hg172_6
                have W172 := W159.e F172
                refine am_iconstN (pc := 175) (k := 1) C dX2_atom_175 ?_
                have E9 : rf_atm t dd (Cc t) (A t) o w = (true, rf_oEm (rf_sum t oN (rf_sum t (rf_o3 t o) w).2.2).2.1, rf_wEm (rf_sum t oN (rf_sum t (rf_o3 t o) w).2.2).2.1 (rf_sum t oN (rf_sum t (rf_o3 t o) w).2.2).2.2 (nI op) (nI 0)) := E8.trans (by rw [rf_at2, q162]; rfl)
                exact am_iretbr T dX2_atom_176 rfl (Nat.le_refl _) (Nat.le_refl _) (by rw [E9]; rfl) rfl (by rw [E9]; exact ⟨fun _ => ⟨cl_to_eq (K159.e F172) rf_e_em rf_SB_em, D172.n (rf_ems_em (by have := (((rf_Tq_sum hcN).2 q162).cr hcN).n.2; exact Nat.lt_trans this (by decide)))⟩, fun z => absurd z (fun y => Bool.false_ne_true y.symm), W172⟩)
              · skip
                refine am_iconstN (pc := 165) (k := 0) C dX2_atom_165 ?_
                have E9 : rf_atm t dd (Cc t) (A t) o w = (false, (rf_sum t oN (rf_sum t (rf_o3 t o) w).2.2).2) := E8.trans (by rw [rf_at2, q162]; rfl)
                exact am_iretbr T dX2_atom_166 rfl (Nat.le_refl _) (Nat.le_refl _) (by rw [E9]; rfl) rfl (by rw [E9]; exact ⟨fun z => absurd z Bool.false_ne_true, fun _ => G159.2.1 q162, W159⟩)
            · skip
              exact absurd q134 (by decide)
        · skip
          refine am_iconstN (pc := 106) (k := 0) C dX2_atom_106 ?_
          have E9 : rf_atm t dd (Cc t) (A t) o w = (false, (rf_sum t (rf_o3 t o) w).2) := by rw [rf_atm_0 q43 e14 e15, rf_at0, q103]; rfl
          exact am_iretbr T dX2_atom_107 rfl (Nat.le_refl _) (Nat.le_refl _) (by rw [E9]; rfl) rfl (by rw [E9]; exact ⟨fun z => absurd z Bool.false_ne_true, fun _ => G100.2.1 q103, W100⟩)
      · skip
        have e15 : rf_rPas t (rf_o2 t o) 15 = true := (rf_rPas_c he2 hb2).trans q77
        have eo3 : rf_o3 t o = rf_oPas t o 15 := cl_o3_eq hcr.1 eo2 q9
        refine am_aload_n (pc := 80) C dX2_atom_80 rfl ?_
        refine am_getR (pc := 81) (j := 1) C dX2_atom_81 f2_9 bn_131 sh_131 (rf_131_0 hR) ?_
        refine am_callVvr (Y := mX8_advance) (pc := 84) (st := []) (As := []) (PP := fun c9 => cl_to (c9) t (rf_oPas t o 15) ∧ cl_fr (h) c9 1 1) C dX2_atom_84 k2_45 v_X8_advance rfl rfl bn_1 sh_1 ⟨by decide, rfl⟩ (by omega) (Nat.zero_le _) (Nat.zero_le _) (Nat.le_of_ble_eq_true rfl) (c_X8_adv_k (h := h) hR t o (show cl_to (h) t o from K) (show rf_To o from hcr.1) 15 (show 0 < am_len 15 from (by decide +kernel)) (show rf_rPas t o 15 = true from q77)) (fun g84_7 hg84_7 => ?_)
        obtain ⟨K84, F84⟩ := hg84_7
        have W84 := cl_fl.rf.a F84
        refine am_aload_n (pc := 87) C dX2_atom_87 rfl ?_
        refine am_getR (pc := 88) (j := 70) C dX2_atom_88 f2_15 bn_131 sh_131 (rf_131_1 hR) ?_
        refine am_sipush (pc := 91) (v := nI 1007) C dX2_atom_91 (by decide) ?_
        refine am_callVvr (Y := mX1_emit) (pc := 94) (st := []) (As := [.int (nI 1007)]) (PP := fun c9 => cl_Ld c9 ((rf_ems o) + 1) (rf_wE (rf_ems o) w (nI 7) (nI 0)) ∧ cl_fe (g84_7) c9) C dX2_atom_94 k2_82 v_X1_emit rfl rfl bn_70 sh_70 ⟨by decide, rfl⟩ (by omega) (Nat.zero_le _) (Nat.zero_le _) (Nat.le_of_ble_eq_true rfl) (c_X1_emit_o (h := g84_7) hR (nI 1007) (rf_ems o) w (show cl_Ld (g84_7) (rf_ems o) w from (D.a F84)) (show (rf_ems o) < 400 from hn4) (nI 7) (nI 0) (show (nI 1007) = cl_oc (nI 7) (nI 0) from (by rw [cl_oc, rf_nat_nI (by decide), if_neg (by decide), if_pos (by decide)]))) (fun g94_8 hg94_8 => ?_)
        obtain ⟨D94, F94⟩ := hg94_8
        have W94 := W84.e F94
        refine am_iconstN (pc := 97) (k := 1) C dX2_atom_97 ?_
        have E9 : rf_atm t dd (Cc t) (A t) o w = (true, rf_oEm (rf_o3 t o), rf_wEm (rf_o3 t o) w (nI 7) (nI 0)) := rf_atm_a q43 e14 e15
        exact am_iretbr T dX2_atom_98 rfl (Nat.le_refl _) (Nat.le_refl _) (by rw [E9]; rfl) rfl (by rw [E9, eo3, show rf_wEm (rf_oPas t o 15) w (nI 7) (nI 0) = rf_wE (rf_ems o) w (nI 7) (nI 0) from by rw [rf_wEm, rf_oPas, rf_ems_pb]; rfl]; exact ⟨fun _ => ⟨cl_to_eq (K84.e F94) rf_e_em rf_SB_em, D94.n (by rw [rf_ems_em (by rw [rf_oPas, rf_ems_pb]; omega), rf_oPas, rf_ems_pb])⟩, fun z => absurd z (fun y => Bool.false_ne_true y.symm), W94⟩)
    · skip
      refine am_iload_n (pc := 46) C dX2_atom_46 rfl ?_
      refine am_bipush (pc := 47) (v := nI 6) C dX2_atom_47 (by decide) ?_
      refine am_icmp_geN (pc := 49) (tgt := 66) C dX2_atom_49 (by decide) (by omega) (by omega) (fun q49 => ?_) (fun q49 => ?_)
      · skip
        refine am_iconstN (pc := 66) (k := 0) C dX2_atom_66 ?_
        have E9 : rf_atm t dd (Cc t) (A t) o w = (false, rf_oSig t o 40, w) := by rw [rf_atm_p q43, rf_atP, if_pos (by omega)]
        exact am_iretbr T dX2_atom_67 rfl (Nat.le_refl _) (Nat.le_refl _) (by rw [E9]; rfl) rfl (by rw [E9]; exact ⟨fun z => absurd z Bool.false_ne_true, fun _ => (cl_to_b K).trans (congrArg nI (rf_b_sig hcr.1).symm), cl_fl.rf⟩)
      · skip
        have h6 : dd ≠ 6 := by omega
        have E8 : rf_atm t dd (Cc t) (A t) o w = rf_atP t dd (Cc t) (rf_oSig t o 40) w := rf_atm_p q43
        refine am_aload_n (pc := 52) C dX2_atom_52 rfl ?_
        refine am_iload_n (pc := 53) C dX2_atom_53 rfl ?_
        refine am_iconstN (pc := 54) (k := 1) C dX2_atom_54 ?_
        refine am_iaddN (pc := 55) C dX2_atom_55 ?_
        refine am_callVir (Y := mX2_bracketed) (pc := 56) (st := []) (As := [.int (nI (dd + 1))]) (x := (am_b ((rf_atP t dd (Cc t) (rf_oSig t o 40) w).1))) (PP := fun c9 => cl_LS (h) c9 t (rf_atP t dd (Cc t) (rf_oSig t o 40) w)) C dX2_atom_56 k2_99 v_X2_bracketed rfl rfl bn_131 sh_131 ⟨by decide, rfl⟩ (by omega) (Nat.zero_le _) (Nat.zero_le _) (Nat.le_of_ble_eq_true rfl) (c_X2_bracketed hR (dd + 1) Cc dd dC hC2 rfl h6 (hPC h6) (fun t => hgC t h6) t o w hcr K D q43) (fun g56_9 hg56_9 => ?_)
        have G56 := hg56_9
        refine am_if_eqB (pc := 59) (tgt := 66) C dX2_atom_59 (by decide) (fun q59 => ?_) (fun q59 => ?_)
        · skip
          refine am_iconstN (pc := 66) (k := 0) C dX2_atom_66 ?_
          exact am_iretbr T dX2_atom_67 rfl (Nat.le_refl _) (Nat.le_refl _) (by rw [E8, q59]; rfl) rfl (by rw [E8]; exact G56)
        · skip
          refine am_iconstN (pc := 62) (k := 1) C dX2_atom_62 ?_
          refine am_goto (pc := 63) (tgt := 67) C dX2_atom_63 (by decide) ?_
          exact am_iretbr T dX2_atom_67 rfl (Nat.le_refl _) (Nat.le_refl _) (by rw [E8, q59]; rfl) rfl (by rw [E8]; exact G56)
  · skip
    have hS : rf_rSig t o 40 = false := cl_pas_sig (by unfold cl_sg; decide) (by decide +kernel) q9
    have e14 : rf_rPas t (rf_oSig t o 40) 14 = true := (rf_rPas_c rf_e_sig (rf_SB_sig_f hcr.1 hS)).trans q9
    have eo2 : rf_o2 t o = rf_oPas t o 14 := cl_o2_eq hcr.1 hS
    refine am_iload_n (pc := 12) C dX2_atom_12 rfl ?_
    refine am_bipush (pc := 13) (v := nI 6) C dX2_atom_13 (by decide) ?_
    refine am_icmp_geN (pc := 15) (tgt := 32) C dX2_atom_15 (by decide) (by omega) (by omega) (fun q15 => ?_) (fun q15 => ?_)
    · skip
      refine am_iconstN (pc := 32) (k := 0) C dX2_atom_32 ?_
      have E9 : rf_atm t dd (Cc t) (A t) o w = (false, rf_o2 t o, w) := by rw [rf_atm_n hS e14, rf_atN, if_pos (by omega)]
      exact am_iretbr T dX2_atom_33 rfl (Nat.le_refl _) (Nat.le_refl _) (by rw [E9]; rfl) rfl (by rw [E9]; exact ⟨fun z => absurd z Bool.false_ne_true, fun _ => (cl_to_b K).trans (congrArg nI (by rw [eo2, rf_b_pas hcr.1])), cl_fl.rf⟩)
    · skip
      have h6 : dd ≠ 6 := by omega
      have E8 : rf_atm t dd (Cc t) (A t) o w = rf_atN dd (A t) (rf_oPas t o 14) w := by rw [rf_atm_n hS e14, eo2]
      refine am_aload_n (pc := 18) C dX2_atom_18 rfl ?_
      refine am_iload_n (pc := 19) C dX2_atom_19 rfl ?_
      refine am_iconstN (pc := 20) (k := 1) C dX2_atom_20 ?_
      refine am_iaddN (pc := 21) C dX2_atom_21 ?_
      refine am_callVir (Y := mX2_denied) (pc := 22) (st := []) (As := [.int (nI (dd + 1))]) (x := (am_b ((rf_atN dd (A t) (rf_oPas t o 14) w).1))) (PP := fun c9 => cl_LS (h) c9 t (rf_atN dd (A t) (rf_oPas t o 14) w)) C dX2_atom_22 k2_93 v_X2_denied rfl rfl bn_131 sh_131 ⟨by decide, rfl⟩ (by omega) (Nat.zero_le _) (Nat.zero_le _) (Nat.le_of_ble_eq_true rfl) (c_X2_denied hR (dd + 1) A dd dA hA2 rfl h6 (hPA h6) (fun t => hgA t h6) t o w hcr K D q9) (fun g22_10 hg22_10 => ?_)
      have G22 := hg22_10
      refine am_if_eqB (pc := 25) (tgt := 32) C dX2_atom_25 (by decide) (fun q25 => ?_) (fun q25 => ?_)
      · skip
        refine am_iconstN (pc := 32) (k := 0) C dX2_atom_32 ?_
        exact am_iretbr T dX2_atom_33 rfl (Nat.le_refl _) (Nat.le_refl _) (by rw [E8, q25]; rfl) rfl (by rw [E8]; exact G22)
      · skip
        refine am_iconstN (pc := 28) (k := 1) C dX2_atom_28 ?_
        refine am_goto (pc := 29) (tgt := 33) C dX2_atom_29 (by decide) ?_
        exact am_iretbr T dX2_atom_33 rfl (Nat.le_refl _) (Nat.le_refl _) (by rw [E8, q25]; rfl) rfl (by rw [E8]; exact G22)

/-! by depth -/
section M53B
theorem c_X2_cond {A : rf_W → rf_Rd} {dd d : Nat} (hd : 20 ≤ d) (hPA : cl_PA A dd d) (hgA : ∀ t, rf_good (A t) dd) : cl_PC (fun t => rf_cond t (A t)) dd (d + 2) := fun ad r hR h t o w h1 h2 K D => c_X2_anyOf hR dd A d hd hPA hgA t o w h1 K D h2
theorem c_X2_atoms : ∀ n, n ≤ 6 → cl_PA (fun t => rf_atom t n) (6 - n) (22 + 4 * n)
  | 0, _ => fun ad r hR h t o w h1 h2 K D => by
    have k := c_X2_atom (ad := ad) hR 6 (fun _ o w => (false, o, w)) (fun _ o w => (false, o, w)) 20 20 20 (by omega) (by omega) (by omega) (by omega) (by omega) (by omega) (fun z => absurd rfl z) (fun z => absurd rfl z) (fun _ z => absurd rfl z) (fun _ z => absurd rfl z) t o w h1 K D h2
    have e : rf_atom t 0 o w = rf_atm t 6 (fun o w => (false, o, w)) (fun o w => (false, o, w)) o w := by rw [rf_atom]
    show am_CM _ _ _ _ _ _ _ _ (am_pr (some (.int (am_b (rf_atom t 0 o w).1))) r (fun c9 => cl_LS h c9 t (rf_atom t 0 o w)))
    rw [e]
    exact k
  | n + 1, hn => by
    have ih := c_X2_atoms n (by omega)
    have hg : ∀ t, rf_good (rf_atom t n) (6 - n) := fun t => rf_good_atom (t := t) n (by omega)
    have hc := c_X2_cond (by omega) ih hg
    have hgc : ∀ t, rf_good (rf_cond t (rf_atom t n)) (6 - n) := fun t => rf_good_cond (t := t) (hg t)
    have e6 : 6 - n = 5 - n + 1 := by omega
    rw [e6] at ih hg hc hgc
    refine fun ad r hR h t o w h1 h2 K D => ?_
    have k := c_X2_atom (ad := ad) hR (5 - n) (fun t => rf_cond t (rf_atom t n)) (fun t => rf_atom t n) (22 + 4 * n) (22 + 4 * n + 2) (22 + 4 * n + 2) (by omega) (by omega) (by omega) (by omega) (by omega) (by omega) (fun _ => hc) (fun _ => ih) (fun t _ => hgc t) (fun t _ => hg t) t o w h1 K D (by rw [h2]; exact congrArg nI (by omega))
    have e : rf_atom t (n + 1) o w = rf_atm t (5 - n) (rf_cond t (rf_atom t n)) (rf_atom t n) o w := by rw [rf_atom]
    show am_CM _ _ _ _ _ _ _ _ (am_pr (some (.int (am_b (rf_atom t (n + 1) o w).1))) r (fun c9 => cl_LS h c9 t (rf_atom t (n + 1) o w)))
    rw [e]
    rw [show 6 - (n + 1) = 5 - n by omega]
    exact k
theorem c_X2_cond0 : cl_PC (fun t => rf_cond t (rf_atom t 6)) 0 48 := c_X2_cond (by omega) (c_X2_atoms 6 (by omega)) (fun t => rf_good_atom (t := t) 6 (by omega))
end M53B

