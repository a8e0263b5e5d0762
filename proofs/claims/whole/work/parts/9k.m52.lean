/-! THE CLASS: conditions -/
section M52
def cl_PA (A : rf_W → rf_Rd) (dd d : Nat) : Prop := ∀ (ad : Nat → Nat) (r : am_R) (_ : am_rs r) (h : am_H) (t o w : rf_W) (_ : rf_cr o) (_ : o 13 = nI dd) (_ : cl_to h t o) (_ : cl_Ld h (rf_ems o) w), am_CM mX2_atom d 0 0 [.ref 131, .int (nI dd)] (am_VV ad) r h (am_pr (some (.int (am_b (A t o w).1))) r (fun c9 => cl_LS h c9 t (A t o w)))
def cl_PC (A : rf_W → rf_Rd) (dd d : Nat) : Prop := ∀ (ad : Nat → Nat) (r : am_R) (_ : am_rs r) (h : am_H) (t o w : rf_W) (_ : rf_cr o) (_ : o 13 = nI dd) (_ : cl_to h t o) (_ : cl_Ld h (rf_ems o) w), am_CM mX2_anyOf d 0 0 [.ref 131, .int (nI dd)] (am_VV ad) r h (am_pr (some (.int (am_b (A t o w).1))) r (fun c9 => cl_LS h c9 t (A t o w)))
theorem cl_pas_end {t o : rf_W} {k : Nat} (hT : rf_To o) (hk : 0 < am_len k) (h : 400 ≤ rf_p o) : rf_rPas t o k = false := by
  obtain ⟨x1, x2, x3, x4, x5, x6, x7⟩ := rf_S_le (t := t) hT
  rw [rf_rPas, rf_word, decide_eq_false (by omega)]; rfl
end M52

set_option maxHeartbeats 400000 in
set_option maxRecDepth 100000 in
theorem c_X2_allOf {ad : Nat → Nat} {r : am_R} (hR : am_rs r) {h : am_H} (dd : Nat) (A : rf_W → rf_Rd) (d : Nat) (hd : 20 ≤ d) (hPA : cl_PA A dd d) (hgA : ∀ t, rf_good (A t) dd) (t : rf_W) (o : rf_W) (w : rf_W) (hcr : rf_cr o) (K : cl_to (h) t o) (D : cl_Ld (h) (rf_ems o) w) (h13 : o 13 = nI dd)  : am_CM mX2_allOf (d + 1) 0 0 [.ref 131, .int (nI dd)] (am_VV ad) r h (am_pr (some (.int (am_b ((rf_allOf t (A t) o w).1)))) r (fun c9 => cl_LS (h) c9 t (rf_allOf t (A t) o w))) := by
  refine am_CM.of (by decide +kernel) (Nat.le_of_ble_eq_true rfl) (fun X C T => ?_)
  show am_G X (am_VV ad) (0, 0) 0 [(0, .ref 131), (1, .int (nI dd))] [] r h
  have hgR : rf_good (A t) dd := hgA _
  have hpt := hgR o w hcr h13
  have hlen : 0 < am_len 22 := by decide +kernel
  refine am_aload_n (pc := 0) C dX2_allOf_0 rfl ?_
  refine am_iload_n (pc := 1) C dX2_allOf_1 rfl ?_
  refine am_callVir (Y := mX2_atom) (pc := 2) (st := []) (As := [.int (nI dd)]) (x := (am_b ((A t o w).1))) (PP := fun c9 => cl_LS (h) c9 t (A t o w)) C dX2_allOf_2 k2_86 v_X2_atom rfl rfl bn_131 sh_131 ⟨by decide, rfl⟩ (by omega) (Nat.zero_le _) (Nat.zero_le _) (Nat.le_of_ble_eq_true rfl) (hPA _ _ hR _ t o w hcr h13 K D) (fun g2_0 hg2_0 => ?_)
  have G2 := hg2_0
  refine am_if_neB (pc := 5) (tgt := 10) C dX2_allOf_5 (by decide) (fun q5 => ?_) (fun q5 => ?_)
  · skip
    refine am_iconstN (pc := 10) (k := 0) C dX2_allOf_10 ?_
    refine am_istore_n (pc := 11) (ls' := [(0, .ref 131), (1, .int (nI dd)), (2, .int (nI 0))]) C dX2_allOf_11 (by decide) rfl ?_
    have L12 : ∀ (j12 : Nat) (gk : am_H) (k : Nat) (q : rf_W) (wv : rf_W), (hkj : k + j12 = 400) → (hcq : rf_cr q) → (hq13 : q 13 = nI dd) → (hkp : k ≤ rf_p q) → (hKq : cl_to gk t q) → (hDq : cl_Ld gk (rf_ems q) wv) → (hWk : cl_fl h gk) → (hms : rf_allOf t (A t) o w = rf_opL t (A t) 22 13 (402 - k) q wv) → am_G X (am_VV ad) (0, 0) 12 [(0, .ref 131), (1, .int (nI dd)), (2, .int (nI k))] [] r gk := by
      intro j12
      induction j12 with
      | zero =>
        intro gk k q wv hkj hcq hq13 hkp hKq hDq hWk hms
        have hz9 : rf_rPas t q 22 = false := cl_pas_end hcq.1 hlen (by omega)
        refine am_iload_n (pc := 12) C dX2_allOf_12 rfl ?_
        refine am_sipush (pc := 13) (v := nI 400) C dX2_allOf_13 (by decide) ?_
        refine am_icmp_geN (pc := 16) (tgt := 64) C dX2_allOf_16 (by decide) (by omega) (by omega) (fun q16 => ?_) (fun q16 => ?_)
        · skip
          refine am_iconstN (pc := 64) (k := 1) C dX2_allOf_64 ?_
          have E9 : rf_allOf t (A t) o w = (true, (rf_oPas t q 22), wv) := hms.trans (by rw [show 402 - k = 402 - (k + 1) + 1 by omega, rf_opL, hz9]; rfl)
          have q28 := hz9
          exact am_iretbr T dX2_allOf_65 rfl (Nat.le_refl _) (Nat.le_refl _) (by rw [E9]; rfl) rfl (by rw [E9]; exact ⟨fun _ => ⟨cl_to_eq hKq rf_e_pas (rf_SB_pas_f hcq.1 q28), hDq.n rf_ems_pb⟩, fun z => absurd z (fun y => Bool.false_ne_true y.symm), hWk⟩)
        · skip
          exact absurd q16 (by omega)
      | succ j12 ih12 =>
        intro gk k q wv hkj hcq hq13 hkp hKq hDq hWk hms
        have hsg := rf_Tm_pas (t := t) (k := 22) hcq.1
        have hp2 := hgR (rf_oPas t q 22) wv (hsg.cr hcq) ((hsg.2.2.1 13 (by decide) (by decide)).trans hq13)
        refine am_iload_n (pc := 12) C dX2_allOf_12 rfl ?_
        refine am_sipush (pc := 13) (v := nI 400) C dX2_allOf_13 (by decide) ?_
        refine am_icmp_geN (pc := 16) (tgt := 64) C dX2_allOf_16 (by decide) (by omega) (by omega) (fun q16 => ?_) (fun q16 => ?_)
        · skip
          exact absurd q16 (by omega)
        · skip
          refine am_aload_n (pc := 19) C dX2_allOf_19 rfl ?_
          refine am_getR (pc := 20) (j := 1) C dX2_allOf_20 f2_9 bn_131 sh_131 (rf_131_0 hR) ?_
          refine am_ldcs (pc := 23) (k := 22) (t := "and") C dX2_allOf_23 (by decide) (List.mem_of_getElem? (i := 23) rfl) ?_
          refine am_callVi (Y := mX8_says) (pc := 25) (st := []) (As := [.ref (am_SB + 22)]) (x := (am_b (rf_rPas t q 22))) (h2 := gk) C dX2_allOf_25 k2_60 v_X8_says rfl rfl bn_1 sh_1 ⟨by decide, rfl⟩ (by omega) (Nat.zero_le _) (Nat.zero_le _) (Nat.le_of_ble_eq_true rfl) (c_X8_says_o (h := gk) hR 22 t q (show cl_to (gk) t q from hKq) (show 22 < am_TX.length from (by decide)) (show 0 < am_len 22 from (by decide +kernel))) ?_
          refine am_if_eqB (pc := 28) (tgt := 64) C dX2_allOf_28 (by decide) (fun q28 => ?_) (fun q28 => ?_)
          · skip
            refine am_iconstN (pc := 64) (k := 1) C dX2_allOf_64 ?_
            have E9 : rf_allOf t (A t) o w = (true, (rf_oPas t q 22), wv) := hms.trans (by rw [show 402 - k = 402 - (k + 1) + 1 by omega, rf_opL, q28]; rfl)
            exact am_iretbr T dX2_allOf_65 rfl (Nat.le_refl _) (Nat.le_refl _) (by rw [E9]; rfl) rfl (by rw [E9]; exact ⟨fun _ => ⟨cl_to_eq hKq rf_e_pas (rf_SB_pas_f hcq.1 q28), hDq.n rf_ems_pb⟩, fun z => absurd z (fun y => Bool.false_ne_true y.symm), hWk⟩)
          · skip
            refine am_aload_n (pc := 31) C dX2_allOf_31 rfl ?_
            refine am_getR (pc := 32) (j := 1) C dX2_allOf_32 f2_9 bn_131 sh_131 (rf_131_0 hR) ?_
            refine am_callVvr (Y := mX8_advance) (pc := 35) (st := []) (As := []) (PP := fun c9 => cl_to (c9) t (rf_oPas t q 22) ∧ cl_fr (gk) c9 1 1) C dX2_allOf_35 k2_45 v_X8_advance rfl rfl bn_1 sh_1 ⟨by decide, rfl⟩ (by omega) (Nat.zero_le _) (Nat.zero_le _) (Nat.le_of_ble_eq_true rfl) (c_X8_adv_k (h := gk) hR t q (show cl_to (gk) t q from hKq) (show rf_To q from hcq.1) 22 (show 0 < am_len 22 from (by decide +kernel)) (show rf_rPas t q 22 = true from q28)) (fun g35_2 hg35_2 => ?_)
            obtain ⟨K35, F35⟩ := hg35_2
            have W35 := hWk.a F35
            have D35 := (hDq.a F35).n (m := rf_ems (rf_oPas t q 22)) rf_ems_pb
            refine am_aload_n (pc := 38) C dX2_allOf_38 rfl ?_
            refine am_iload_n (pc := 39) C dX2_allOf_39 rfl ?_
            refine am_callVir (Y := mX2_atom) (pc := 40) (st := []) (As := [.int (nI dd)]) (x := (am_b ((A t (rf_oPas t q 22) wv).1))) (PP := fun c9 => cl_LS (g35_2) c9 t (A t (rf_oPas t q 22) wv)) C dX2_allOf_40 k2_86 v_X2_atom rfl rfl bn_131 sh_131 ⟨by decide, rfl⟩ (by omega) (Nat.zero_le _) (Nat.zero_le _) (Nat.le_of_ble_eq_true rfl) (hPA _ _ hR _ t (rf_oPas t q 22) wv (hsg.cr hcq) ((hsg.2.2.1 13 (by decide) (by decide)).trans hq13) K35 D35) (fun g40_3 hg40_3 => ?_)
            have G40 := hg40_3
            have W40 := W35.tr G40.2.2
            refine am_if_neB (pc := 43) (tgt := 48) C dX2_allOf_43 (by decide) (fun q43 => ?_) (fun q43 => ?_)
            · skip
              obtain ⟨K40, D40⟩ := G40.1 q43
              obtain ⟨g1, g2⟩ := rf_Tg_op hcq hsg (by have := rf_pas_s hcq.1 hlen q28; omega) (hp2.2 q43)
              have hn4 : rf_ems (A t (rf_oPas t q 22) wv).2.1 < 400 := ((hp2.2 q43).cr (hsg.cr hcq)).n.2
              refine am_aload_n (pc := 48) C dX2_allOf_48 rfl ?_
              refine am_getR (pc := 49) (j := 70) C dX2_allOf_49 f2_15 bn_131 sh_131 (rf_131_1 hR) ?_
              refine am_sipush (pc := 52) (v := nI 1012) C dX2_allOf_52 (by decide) ?_
              refine am_callVvr (Y := mX1_emit) (pc := 55) (st := []) (As := [.int (nI 1012)]) (PP := fun c9 => cl_Ld c9 ((rf_ems (A t (rf_oPas t q 22) wv).2.1) + 1) (rf_wE (rf_ems (A t (rf_oPas t q 22) wv).2.1) ((A t (rf_oPas t q 22) wv).2.2) (nI 13) (nI 0)) ∧ cl_fe (g40_3) c9) C dX2_allOf_55 k2_82 v_X1_emit rfl rfl bn_70 sh_70 ⟨by decide, rfl⟩ (by omega) (Nat.zero_le _) (Nat.zero_le _) (Nat.le_of_ble_eq_true rfl) (c_X1_emit_o (h := g40_3) hR (nI 1012) (rf_ems (A t (rf_oPas t q 22) wv).2.1) ((A t (rf_oPas t q 22) wv).2.2) (show cl_Ld (g40_3) (rf_ems (A t (rf_oPas t q 22) wv).2.1) ((A t (rf_oPas t q 22) wv).2.2) from D40) (show (rf_ems (A t (rf_oPas t q 22) wv).2.1) < 400 from hn4) (nI 13) (nI 0) (show (nI 1012) = cl_oc (nI 13) (nI 0) from (by rw [cl_oc, rf_nat_nI (by decide), if_neg (by decide), if_neg (by decide)]))) (fun g55_4 hg55_4 => ?_)
              obtain ⟨D55, F55⟩ := hg55_4
              have W55 := W40.e F55
              refine am_iincN (pc := 58) (ls' := [(0, .ref 131), (1, .int (nI dd)), (2, .int (nI (k + 1)))]) C dX2_allOf_58 rfl (am_up1 _) (by decide) rfl ?_
              refine am_goto (pc := 61) (tgt := 12) C dX2_allOf_61 (by decide) ?_
              exact ih12 g55_4 (k + 1) (rf_oEm (A t (rf_oPas t q 22) wv).2.1) (rf_wE (rf_ems (A t (rf_oPas t q 22) wv).2.1) (A t (rf_oPas t q 22) wv).2.2 (nI 13) (nI 0)) (by omega) (g1.cr hcq) (g1.2.2.trans hq13) (by omega) (cl_to_eq (K40.e F55) rf_e_em rf_SB_em) (D55.n (rf_ems_em (by omega))) W55 (hms.trans (by rw [show 402 - k = 402 - (k + 1) + 1 by omega, rf_opL, q28]; show (bif _ then _ else _) = _; rw [q43]; rfl))
            · skip
              refine am_iconstN (pc := 46) (k := 0) C dX2_allOf_46 ?_
              have E9 : rf_allOf t (A t) o w = (false, (A t (rf_oPas t q 22) wv).2) := hms.trans (by rw [show 402 - k = 402 - (k + 1) + 1 by omega, rf_opL, q28]; show (bif _ then _ else _) = _; rw [q43]; rfl)
              exact am_iretbr T dX2_allOf_47 rfl (Nat.le_refl _) (Nat.le_refl _) (by rw [E9]; rfl) rfl (by rw [E9]; exact ⟨fun z => absurd z Bool.false_ne_true, fun _ => G40.2.1 q43, W40⟩)
    exact L12 400 g2_0 0 ((A t o w).2.1) ((A t o w).2.2) (by omega) ((hpt.2 q5).cr hcr) ((hpt.2 q5).2.2.trans h13) (Nat.zero_le _) (G2.1 q5).1 (G2.1 q5).2 G2.2.2 (by rw [rf_allOf, rf_opE, q5]; rfl)
  · skip
    refine am_iconstN (pc := 8) (k := 0) C dX2_allOf_8 ?_
    have E9 : rf_allOf t (A t) o w = (false, (A t o w).2) := by rw [rf_allOf, rf_opE, q5]; rfl
    exact am_iretbr T dX2_allOf_9 rfl (Nat.le_refl _) (Nat.le_refl _) (by rw [E9]; rfl) rfl (by rw [E9]; exact ⟨fun z => absurd z Bool.false_ne_true, fun _ => G2.2.1 q5, G2.2.2⟩)

set_option maxHeartbeats 400000 in
set_option maxRecDepth 100000 in
theorem c_X2_anyOf {ad : Nat → Nat} {r : am_R} (hR : am_rs r) {h : am_H} (dd : Nat) (A : rf_W → rf_Rd) (d : Nat) (hd : 20 ≤ d) (hPA : cl_PA A dd d) (hgA : ∀ t, rf_good (A t) dd) (t : rf_W) (o : rf_W) (w : rf_W) (hcr : rf_cr o) (K : cl_to (h) t o) (D : cl_Ld (h) (rf_ems o) w) (h13 : o 13 = nI dd)  : am_CM mX2_anyOf (d + 2) 0 0 [.ref 131, .int (nI dd)] (am_VV ad) r h (am_pr (some (.int (am_b ((rf_cond t (A t) o w).1)))) r (fun c9 => cl_LS (h) c9 t (rf_cond t (A t) o w))) := by
  refine am_CM.of (by decide +kernel) (Nat.le_of_ble_eq_true rfl) (fun X C T => ?_)
  show am_G X (am_VV ad) (0, 0) 0 [(0, .ref 131), (1, .int (nI dd))] [] r h
  have hgR : rf_good (rf_allOf t (A t)) dd := rf_good_allOf (hgA _)
  have hpt := hgR o w hcr h13
  have hlen : 0 < am_len 23 := by decide +kernel
  refine am_aload_n (pc := 0) C dX2_anyOf_0 rfl ?_
  refine am_iload_n (pc := 1) C dX2_anyOf_1 rfl ?_
  refine am_callVir (Y := mX2_allOf) (pc := 2) (st := []) (As := [.int (nI dd)]) (x := (am_b ((rf_allOf t (A t) o w).1))) (PP := fun c9 => cl_LS (h) c9 t (rf_allOf t (A t) o w)) C dX2_anyOf_2 k2_77 v_X2_allOf rfl rfl bn_131 sh_131 ⟨by decide, rfl⟩ (by omega) (Nat.zero_le _) (Nat.zero_le _) (Nat.le_of_ble_eq_true rfl) (c_X2_allOf hR dd A d hd hPA hgA t o w hcr K D h13) (fun g2_0 hg2_0 => ?_)
  have G2 := hg2_0
  refine am_if_neB (pc := 5) (tgt := 10) C dX2_anyOf_5 (by decide) (fun q5 => ?_) (fun q5 => ?_)
  · skip
    refine am_iconstN (pc := 10) (k := 0) C dX2_anyOf_10 ?_
    refine am_istore_n (pc := 11) (ls' := [(0, .ref 131), (1, .int (nI dd)), (2, .int (nI 0))]) C dX2_anyOf_11 (by decide) rfl ?_
    have L12 : ∀ (j12 : Nat) (gk : am_H) (k : Nat) (q : rf_W) (wv : rf_W), (hkj : k + j12 = 400) → (hcq : rf_cr q) → (hq13 : q 13 = nI dd) → (hkp : k ≤ rf_p q) → (hKq : cl_to gk t q) → (hDq : cl_Ld gk (rf_ems q) wv) → (hWk : cl_fl h gk) → (hms : rf_cond t (A t) o w = rf_opL t (rf_allOf t (A t)) 23 14 (402 - k) q wv) → am_G X (am_VV ad) (0, 0) 12 [(0, .ref 131), (1, .int (nI dd)), (2, .int (nI k))] [] r gk := by
      intro j12
      induction j12 with
      | zero =>
        intro gk k q wv hkj hcq hq13 hkp hKq hDq hWk hms
        have hz9 : rf_rPas t q 23 = false := cl_pas_end hcq.1 hlen (by omega)
        refine am_iload_n (pc := 12) C dX2_anyOf_12 rfl ?_
        refine am_sipush (pc := 13) (v := nI 400) C dX2_anyOf_13 (by decide) ?_
        refine am_icmp_geN (pc := 16) (tgt := 64) C dX2_anyOf_16 (by decide) (by omega) (by omega) (fun q16 => ?_) (fun q16 => ?_)
        · skip
          refine am_iconstN (pc := 64) (k := 1) C dX2_anyOf_64 ?_
          have E9 : rf_cond t (A t) o w = (true, (rf_oPas t q 23), wv) := hms.trans (by rw [show 402 - k = 402 - (k + 1) + 1 by omega, rf_opL, hz9]; rfl)
          have q28 := hz9
          exact am_iretbr T dX2_anyOf_65 rfl (Nat.le_refl _) (Nat.le_refl _) (by rw [E9]; rfl) rfl (by rw [E9]; exact ⟨fun _ => ⟨cl_to_eq hKq rf_e_pas (rf_SB_pas_f hcq.1 q28), hDq.n rf_ems_pb⟩, fun z => absurd z (fun y => Bool.false_ne_true y.symm), hWk⟩)
        · skip
          exact absurd q16 (by omega)
      | succ j12 ih12 =>
        intro gk k q wv hkj hcq hq13 hkp hKq hDq hWk hms
        have hsg := rf_Tm_pas (t := t) (k := 23) hcq.1
        have hp2 := hgR (rf_oPas t q 23) wv (hsg.cr hcq) ((hsg.2.2.1 13 (by decide) (by decide)).trans hq13)
        refine am_iload_n (pc := 12) C dX2_anyOf_12 rfl ?_
        refine am_sipush (pc := 13) (v := nI 400) C dX2_anyOf_13 (by decide) ?_
        refine am_icmp_geN (pc := 16) (tgt := 64) C dX2_anyOf_16 (by decide) (by omega) (by omega) (fun q16 => ?_) (fun q16 => ?_)
        · skip
          exact absurd q16 (by omega)
        · skip
          refine am_aload_n (pc := 19) C dX2_anyOf_19 rfl ?_
          refine am_getR (pc := 20) (j := 1) C dX2_anyOf_20 f2_9 bn_131 sh_131 (rf_131_0 hR) ?_
          refine am_ldcs (pc := 23) (k := 23) (t := "or") C dX2_anyOf_23 (by decide) (List.mem_of_getElem? (i := 24) rfl) ?_
          refine am_callVi (Y := mX8_says) (pc := 25) (st := []) (As := [.ref (am_SB + 23)]) (x := (am_b (rf_rPas t q 23))) (h2 := gk) C dX2_anyOf_25 k2_60 v_X8_says rfl rfl bn_1 sh_1 ⟨by decide, rfl⟩ (by omega) (Nat.zero_le _) (Nat.zero_le _) (Nat.le_of_ble_eq_true rfl) (c_X8_says_o (h := gk) hR 23 t q (show cl_to (gk) t q from hKq) (show 23 < am_TX.length from (by decide)) (show 0 < am_len 23 from (by decide +kernel))) ?_
          refine am_if_eqB (pc := 28) (tgt := 64) C dX2_anyOf_28 (by decide) (fun q28 => ?_) (fun q28 => ?_)
          · skip
            refine am_iconstN (pc := 64) (k := 1) C dX2_anyOf_64 ?_
            have E9 : rf_cond t (A t) o w = (true, (rf_oPas t q 23), wv) := hms.trans (by rw [show 402 - k = 402 - (k + 1) + 1 by omega, rf_opL, q28]; rfl)
            exact am_iretbr T dX2_anyOf_65 rfl (Nat.le_refl _) (Nat.le_refl _) (by rw [E9]; rfl) rfl (by rw [E9]; exact ⟨fun _ => ⟨cl_to_eq hKq rf_e_pas (rf_SB_pas_f hcq.1 q28), hDq.n rf_ems_pb⟩, fun z => absurd z (fun y => Bool.false_ne_true y.symm), hWk⟩)
          · skip
            refine am_aload_n (pc := 31) C dX2_anyOf_31 rfl ?_
            refine am_getR (pc := 32) (j := 1) C dX2_anyOf_32 f2_9 bn_131 sh_131 (rf_131_0 hR) ?_
            refine am_callVvr (Y := mX8_advance) (pc := 35) (st := []) (As := []) (PP := fun c9 => cl_to (c9) t (rf_oPas t q 23) ∧ cl_fr (gk) c9 1 1) C dX2_anyOf_35 k2_45 v_X8_advance rfl rfl bn_1 sh_1 ⟨by decide, rfl⟩ (by omega) (Nat.zero_le _) (Nat.zero_le _) (Nat.le_of_ble_eq_true rfl) (c_X8_adv_k (h := gk) hR t q (show cl_to (gk) t q from hKq) (show rf_To q from hcq.1) 23 (show 0 < am_len 23 from (by decide +kernel)) (show rf_rPas t q 23 = true from q28)) (fun g35_2 hg35_2 => ?_)
            obtain ⟨K35, F35⟩ := hg35_2
            have W35 := hWk.a F35
            have D35 := (hDq.a F35).n (m := rf_ems (rf_oPas t q 23)) rf_ems_pb
            refine am_aload_n (pc := 38) C dX2_anyOf_38 rfl ?_
            refine am_iload_n (pc := 39) C dX2_anyOf_39 rfl ?_
            refine am_callVir (Y := mX2_allOf) (pc := 40) (st := []) (As := [.int (nI dd)]) (x := (am_b ((rf_allOf t (A t) (rf_oPas t q 23) wv).1))) (PP := fun c9 => cl_LS (g35_2) c9 t (rf_allOf t (A t) (rf_oPas t q 23) wv)) C dX2_anyOf_40 k2_77 v_X2_allOf rfl rfl bn_131 sh_131 ⟨by decide, rfl⟩ (by omega) (Nat.zero_le _) (Nat.zero_le _) (Nat.le_of_ble_eq_true rfl) (c_X2_allOf hR dd A d hd hPA hgA t (rf_oPas t q 23) wv (hsg.cr hcq) K35 D35 ((hsg.2.2.1 13 (by decide) (by decide)).trans hq13)) (fun g40_3 hg40_3 => ?_)
            have G40 := hg40_3
            have W40 := W35.tr G40.2.2
            refine am_if_neB (pc := 43) (tgt := 48) C dX2_anyOf_43 (by decide) (fun q43 => ?_) (fun q43 => ?_)
            · skip
              obtain ⟨K40, D40⟩ := G40.1 q43
              obtain ⟨g1, g2⟩ := rf_Tg_op hcq hsg (by have := rf_pas_s hcq.1 hlen q28; omega) (hp2.2 q43)
              have hn4 : rf_ems (rf_allOf t (A t) (rf_oPas t q 23) wv).2.1 < 400 := ((hp2.2 q43).cr (hsg.cr hcq)).n.2
              refine am_aload_n (pc := 48) C dX2_anyOf_48 rfl ?_
              refine am_getR (pc := 49) (j := 70) C dX2_anyOf_49 f2_15 bn_131 sh_131 (rf_131_1 hR) ?_
              refine am_sipush (pc := 52) (v := nI 1013) C dX2_anyOf_52 (by decide) ?_
              refine am_callVvr (Y := mX1_emit) (pc := 55) (st := []) (As := [.int (nI 1013)]) (PP := fun c9 => cl_Ld c9 ((rf_ems (rf_allOf t (A t) (rf_oPas t q 23) wv).2.1) + 1) (rf_wE (rf_ems (rf_allOf t (A t) (rf_oPas t q 23) wv).2.1) ((rf_allOf t (A t) (rf_oPas t q 23) wv).2.2) (nI 14) (nI 0)) ∧ cl_fe (g40_3) c9) C dX2_anyOf_55 k2_82 v_X1_emit rfl rfl bn_70 sh_70 ⟨by decide, rfl⟩ (by omega) (Nat.zero_le _) (Nat.zero_le _) (Nat.le_of_ble_eq_true rfl) (c_X1_emit_o (h := g40_3) hR (nI 1013) (rf_ems (rf_allOf t (A t) (rf_oPas t q 23) wv).2.1) ((rf_allOf t (A t) (rf_oPas t q 23) wv).2.2) (show cl_Ld (g40_3) (rf_ems (rf_allOf t (A t) (rf_oPas t q 23) wv).2.1) ((rf_allOf t (A t) (rf_oPas t q 23) wv).2.2) from D40) (show (rf_ems (rf_allOf t (A t) (rf_oPas t q 23) wv).2.1) < 400 from hn4) (nI 14) (nI 0) (show (nI 1013) = cl_oc (nI 14) (nI 0) from (by rw [cl_oc, rf_nat_nI (by decide), if_neg (by decide), if_neg (by decide)]))) (fun g55_4 hg55_4 => ?_)
              obtain ⟨D55, F55⟩ := hg55_4
              have W55 := W40.e F55
              refine am_iincN (pc := 58) (ls' := [(0, .ref 131), (1, .int (nI dd)), (2, .int (nI (k + 1)))]) C dX2_anyOf_58 rfl (am_up1 _) (by decide) rfl ?_
              refine am_goto (pc := 61) (tgt := 12) C dX2_anyOf_61 (by decide) ?_
              exact ih12 g55_4 (k + 1) (rf_oEm (rf_allOf t (A t) (rf_oPas t q 23) wv).2.1) (rf_wE (rf_ems (rf_allOf t (A t) (rf_oPas t q 23) wv).2.1) (rf_allOf t (A t) (rf_oPas t q 23) wv).2.2 (nI 14) (nI 0)) (by omega) (g1.cr hcq) (g1.2.2.trans hq13) (by omega) (cl_to_eq (K40.e F55) rf_e_em rf_SB_em) (D55.n (rf_ems_em (by omega))) W55 (hms.trans (by rw [show 402 - k = 402 - (k + 1) + 1 by omega, rf_opL, q28]; show (bif _ then _ else _) = _; rw [q43]; rfl))
            · skip
              refine am_iconstN (pc := 46) (k := 0) C dX2_anyOf_46 ?_
              have E9 : rf_cond t (A t) o w = (false, (rf_allOf t (A t) (rf_oPas t q 23) wv).2) := hms.trans (by rw [show 402 - k = 402 - (k + 1) + 1 by omega, rf_opL, q28]; show (bif _ then _ else _) = _; rw [q43]; rfl)
              exact am_iretbr T dX2_anyOf_47 rfl (Nat.le_refl _) (Nat.le_refl _) (by rw [E9]; rfl) rfl (by rw [E9]; exact ⟨fun z => absurd z Bool.false_ne_true, fun _ => G40.2.1 q43, W40⟩)
    exact L12 400 g2_0 0 ((rf_allOf t (A t) o w).2.1) ((rf_allOf t (A t) o w).2.2) (by omega) ((hpt.2 q5).cr hcr) ((hpt.2 q5).2.2.trans h13) (Nat.zero_le _) (G2.1 q5).1 (G2.1 q5).2 G2.2.2 (by rw [rf_cond, rf_opE, q5]; rfl)
  · skip
    refine am_iconstN (pc := 8) (k := 0) C dX2_anyOf_8 ?_
    have E9 : rf_cond t (A t) o w = (false, (rf_allOf t (A t) o w).2) := by rw [rf_cond, rf_opE, q5]; rfl
    exact am_iretbr T dX2_anyOf_9 rfl (Nat.le_refl _) (Nat.le_refl _) (by rw [E9]; rfl) rfl (by rw [E9]; exact ⟨fun z => absurd z Bool.false_ne_true, fun _ => G2.2.1 q5, G2.2.2⟩)

set_option maxHeartbeats 400000 in
set_option maxRecDepth 100000 in
theorem c_X2_denied {ad : Nat → Nat} {r : am_R} (hR : am_rs r) {h : am_H} (p : Nat) (A : rf_W → rf_Rd) (dd : Nat) (d : Nat) (hd : 20 ≤ d) (hp : p = dd + 1) (h6 : dd ≠ 6) (hPA : cl_PA A (dd + 1) d) (hgA : ∀ t, rf_good (A t) (dd + 1)) (t : rf_W) (o : rf_W) (w : rf_W) (hcr : rf_cr o) (K : cl_to (h) t o) (D : cl_Ld (h) (rf_ems o) w) (hk : rf_rPas t o 14 = true)  : am_CM mX2_denied (d + 1) 0 0 [.ref 131, .int (nI p)] (am_VV ad) r h (am_pr (some (.int (am_b ((rf_atN dd (A t) (rf_oPas t o 14) w).1)))) r (fun c9 => cl_LS (h) c9 t (rf_atN dd (A t) (rf_oPas t o 14) w))) := by
  refine am_CM.of (by decide +kernel) (Nat.le_of_ble_eq_true rfl) (fun X C T => ?_)
  show am_G X (am_VV ad) (0, 0) 0 [(0, .ref 131), (1, .int (nI p))] [] r h
  have h2 := rf_Tm_pas (t := t) (k := 14) hcr.1
  have c2 := h2.cr hcr
  have u := rf_Tc_dp (d := dd + 1) c2 h2.2.2.2
  have cu := u.cr c2
  have hgg := hgA t (rf_dp (rf_oPas t o 14) (dd + 1)) w cu rf_dp_13
  refine am_lsv (ls' := [(0, .ref 131), (1, .int (nI (dd + 1)))]) (congrArg (fun z9 : Int32 => ([(0, .ref 131), (1, Value.int z9)] : List (Nat × Value))) (show (nI p) = (nI (dd + 1)) from (congrArg nI hp))) ?_
  refine am_aload_n (pc := 0) C dX2_denied_0 rfl ?_
  refine am_getR (pc := 1) (j := 1) C dX2_denied_1 f2_9 bn_131 sh_131 (rf_131_0 hR) ?_
  refine am_callVvr (Y := mX8_advance) (pc := 4) (st := []) (As := []) (PP := fun c9 => cl_to (c9) t (rf_oPas t o 14) ∧ cl_fr (h) c9 1 1) C dX2_denied_4 k2_45 v_X8_advance rfl rfl bn_1 sh_1 ⟨by decide, rfl⟩ (by omega) (Nat.zero_le _) (Nat.zero_le _) (Nat.le_of_ble_eq_true rfl) (c_X8_adv_k (h := h) hR t o (show cl_to (h) t o from K) (show rf_To o from hcr.1) 14 (show 0 < am_len 14 from (by decide +kernel)) (show rf_rPas t o 14 = true from hk)) (fun g4_0 hg4_0 => ?_)
  obtain ⟨K4, F4⟩ := hg4_0
  have W4 := cl_fl.rf.a F4
  refine am_aload_n (pc := 7) C dX2_denied_7 rfl ?_
  refine am_iload_n (pc := 8) C dX2_denied_8 rfl ?_
  refine am_callVir (Y := mX2_atom) (pc := 9) (st := []) (As := [.int (nI (dd + 1))]) (x := (am_b ((A t (rf_dp (rf_oPas t o 14) (dd + 1)) w).1))) (PP := fun c9 => cl_LS (g4_0) c9 t (A t (rf_dp (rf_oPas t o 14) (dd + 1)) w)) C dX2_denied_9 k2_86 v_X2_atom rfl rfl bn_131 sh_131 ⟨by decide, rfl⟩ (by omega) (Nat.zero_le _) (Nat.zero_le _) (Nat.le_of_ble_eq_true rfl) (hPA _ _ hR _ t (rf_dp (rf_oPas t o 14) (dd + 1)) w cu rf_dp_13 (cl_to_eq K4 rf_e_dp rf_SB_dp) ((D.a F4).n (rf_ems_dp.trans rf_ems_pb))) (fun g9_1 hg9_1 => ?_)
  have G9 := hg9_1
  have W9 := W4.tr G9.2.2
  refine am_if_neB (pc := 12) (tgt := 17) C dX2_denied_12 (by decide) (fun q12 => ?_) (fun q12 => ?_)
  · skip
    obtain ⟨K9, D9⟩ := G9.1 q12
    have g := hgg.2 q12
    have cq := g.cr cu
    have hn4 : rf_ems (A t (rf_dp (rf_oPas t o 14) (dd + 1)) w).2.1 < 400 := cq.n.2
    refine am_aload_n (pc := 17) C dX2_denied_17 rfl ?_
    refine am_getR (pc := 18) (j := 70) C dX2_denied_18 f2_15 bn_131 sh_131 (rf_131_1 hR) ?_
    refine am_sipush (pc := 21) (v := nI 1011) C dX2_denied_21 (by decide) ?_
    refine am_callVvr (Y := mX1_emit) (pc := 24) (st := []) (As := [.int (nI 1011)]) (PP := fun c9 => cl_Ld c9 ((rf_ems (A t (rf_dp (rf_oPas t o 14) (dd + 1)) w).2.1) + 1) (rf_wE (rf_ems (A t (rf_dp (rf_oPas t o 14) (dd + 1)) w).2.1) ((A t (rf_dp (rf_oPas t o 14) (dd + 1)) w).2.2) (nI 12) (nI 0)) ∧ cl_fe (g9_1) c9) C dX2_denied_24 k2_82 v_X1_emit rfl rfl bn_70 sh_70 ⟨by decide, rfl⟩ (by omega) (Nat.zero_le _) (Nat.zero_le _) (Nat.le_of_ble_eq_true rfl) (c_X1_emit_o (h := g9_1) hR (nI 1011) (rf_ems (A t (rf_dp (rf_oPas t o 14) (dd + 1)) w).2.1) ((A t (rf_dp (rf_oPas t o 14) (dd + 1)) w).2.2) (show cl_Ld (g9_1) (rf_ems (A t (rf_dp (rf_oPas t o 14) (dd + 1)) w).2.1) ((A t (rf_dp (rf_oPas t o 14) (dd + 1)) w).2.2) from D9) (show (rf_ems (A t (rf_dp (rf_oPas t o 14) (dd + 1)) w).2.1) < 400 from hn4) (nI 12) (nI 0) (show (nI 1011) = cl_oc (nI 12) (nI 0) from (by rw [cl_oc, rf_nat_nI (by decide), if_neg (by decide), if_neg (by decide)]))) (fun g24_2 hg24_2 => ?_)
    obtain ⟨D24, F24⟩ := hg24_2
    have W24 := W9.e F24
    refine am_iconstN (pc := 27) (k := 1) C dX2_denied_27 ?_
    have E9 : rf_atN dd (A t) (rf_oPas t o 14) w = (true, rf_oEm (rf_dp (A t (rf_dp (rf_oPas t o 14) (dd + 1)) w).2.1 dd), rf_wEm (rf_dp (A t (rf_dp (rf_oPas t o 14) (dd + 1)) w).2.1 dd) (A t (rf_dp (rf_oPas t o 14) (dd + 1)) w).2.2 (nI 12) (nI 0)) := by rw [rf_atN, if_neg h6]; show (bif _ then _ else _) = _; rw [q12]; rfl
    exact am_iretbr T dX2_denied_28 rfl (Nat.le_refl _) (Nat.le_refl _) (by rw [E9]; rfl) rfl (by rw [E9, show rf_wEm (rf_dp (A t (rf_dp (rf_oPas t o 14) (dd + 1)) w).2.1 dd) (A t (rf_dp (rf_oPas t o 14) (dd + 1)) w).2.2 (nI 12) (nI 0) = rf_wE (rf_ems (A t (rf_dp (rf_oPas t o 14) (dd + 1)) w).2.1) (A t (rf_dp (rf_oPas t o 14) (dd + 1)) w).2.2 (nI 12) (nI 0) from by rw [rf_wEm, rf_ems_dp]; rfl]; exact ⟨fun _ => ⟨cl_to_eq (K9.e F24) (rf_e_em.trans rf_e_dp) (rf_SB_em.trans rf_SB_dp), D24.n (by rw [rf_ems_em (by rw [rf_ems_dp]; omega), rf_ems_dp])⟩, fun z => absurd z (fun y => Bool.false_ne_true y.symm), W24⟩)
  · skip
    refine am_iconstN (pc := 15) (k := 0) C dX2_denied_15 ?_
    have E9 : rf_atN dd (A t) (rf_oPas t o 14) w = (false, (A t (rf_dp (rf_oPas t o 14) (dd + 1)) w).2) := by rw [rf_atN, if_neg h6]; show (bif _ then _ else _) = _; rw [q12]; rfl
    exact am_iretbr T dX2_denied_16 rfl (Nat.le_refl _) (Nat.le_refl _) (by rw [E9]; rfl) rfl (by rw [E9]; exact ⟨fun z => absurd z Bool.false_ne_true, fun _ => G9.2.1 q12, W9⟩)

set_option maxHeartbeats 400000 in
set_option maxRecDepth 100000 in
theorem c_X2_bracketed {ad : Nat → Nat} {r : am_R} (hR : am_rs r) {h : am_H} (p : Nat) (Cc : rf_W → rf_Rd) (dd : Nat) (d : Nat) (hd : 20 ≤ d) (hp : p = dd + 1) (h6 : dd ≠ 6) (hPA : cl_PC Cc (dd + 1) d) (hgA : ∀ t, rf_good (Cc t) (dd + 1)) (t : rf_W) (o : rf_W) (w : rf_W) (hcr : rf_cr o) (K : cl_to (h) t o) (D : cl_Ld (h) (rf_ems o) w) (hk : rf_rSig t o 40 = true)  : am_CM mX2_bracketed (d + 1) 0 0 [.ref 131, .int (nI p)] (am_VV ad) r h (am_pr (some (.int (am_b ((rf_atP t dd (Cc t) (rf_oSig t o 40) w).1)))) r (fun c9 => cl_LS (h) c9 t (rf_atP t dd (Cc t) (rf_oSig t o 40) w))) := by
  refine am_CM.of (by decide +kernel) (Nat.le_of_ble_eq_true rfl) (fun X C T => ?_)
  show am_G X (am_VV ad) (0, 0) 0 [(0, .ref 131), (1, .int (nI p))] [] r h
  have h1 := rf_Tm_sig (t := t) (c := 40) hcr.1
  have c1 := h1.cr hcr
  have u := rf_Tc_dp (d := dd + 1) c1 h1.2.2.2
  have cu := u.cr c1
  have hgg := hgA t (rf_dp (rf_oSig t o 40) (dd + 1)) w cu rf_dp_13
  refine am_lsv (ls' := [(0, .ref 131), (1, .int (nI (dd + 1)))]) (congrArg (fun z9 : Int32 => ([(0, .ref 131), (1, Value.int z9)] : List (Nat × Value))) (show (nI p) = (nI (dd + 1)) from (congrArg nI hp))) ?_
  refine am_aload_n (pc := 0) C dX2_bracketed_0 rfl ?_
  refine am_getR (pc := 1) (j := 1) C dX2_bracketed_1 f2_9 bn_131 sh_131 (rf_131_0 hR) ?_
  refine am_callVvr (Y := mX8_advance) (pc := 4) (st := []) (As := []) (PP := fun c9 => cl_to (c9) t (rf_oSig t o 40) ∧ cl_fr (h) c9 1 1) C dX2_bracketed_4 k2_45 v_X8_advance rfl rfl bn_1 sh_1 ⟨by decide, rfl⟩ (by omega) (Nat.zero_le _) (Nat.zero_le _) (Nat.le_of_ble_eq_true rfl) (c_X8_adv_s (h := h) hR t o (show cl_to (h) t o from K) (show rf_To o from hcr.1) 40 (show cl_sg 40 from (by unfold cl_sg; decide)) (show rf_rSig t o 40 = true from hk)) (fun g4_0 hg4_0 => ?_)
  obtain ⟨K4, F4⟩ := hg4_0
  have W4 := cl_fl.rf.a F4
  refine am_aload_n (pc := 7) C dX2_bracketed_7 rfl ?_
  refine am_iload_n (pc := 8) C dX2_bracketed_8 rfl ?_
  refine am_callVir (Y := mX2_anyOf) (pc := 9) (st := []) (As := [.int (nI (dd + 1))]) (x := (am_b ((Cc t (rf_dp (rf_oSig t o 40) (dd + 1)) w).1))) (PP := fun c9 => cl_LS (g4_0) c9 t (Cc t (rf_dp (rf_oSig t o 40) (dd + 1)) w)) C dX2_bracketed_9 k2_64 v_X2_anyOf rfl rfl bn_131 sh_131 ⟨by decide, rfl⟩ (by omega) (Nat.zero_le _) (Nat.zero_le _) (Nat.le_of_ble_eq_true rfl) (hPA _ _ hR _ t (rf_dp (rf_oSig t o 40) (dd + 1)) w cu rf_dp_13 (cl_to_eq K4 rf_e_dp rf_SB_dp) ((D.a F4).n (rf_ems_dp.trans rf_ems_pb))) (fun g9_1 hg9_1 => ?_)
  have G9 := hg9_1
  have W9 := W4.tr G9.2.2
  refine am_if_eqB (pc := 12) (tgt := 31) C dX2_bracketed_12 (by decide) (fun q12 => ?_) (fun q12 => ?_)
  · skip
    refine am_iconstN (pc := 31) (k := 0) C dX2_bracketed_31 ?_
    have E9 : rf_atP t dd (Cc t) (rf_oSig t o 40) w = (false, (Cc t (rf_dp (rf_oSig t o 40) (dd + 1)) w).2) := by rw [rf_atP, if_neg h6]; show (bif _ then _ else _) = _; rw [q12]; rfl
    exact am_iretbr T dX2_bracketed_32 rfl (Nat.le_refl _) (Nat.le_refl _) (by rw [E9]; rfl) rfl (by rw [E9]; exact ⟨fun z => absurd z Bool.false_ne_true, fun _ => G9.2.1 q12, W9⟩)
  · skip
    obtain ⟨K9, D9⟩ := G9.1 q12
    have g := hgg.2 q12
    have cq := g.cr cu
    have v := rf_Tc_dp (d := dd) cq g.1.2.2.2.1
    have cv := v.cr cq
    refine am_aload_n (pc := 15) C dX2_bracketed_15 rfl ?_
    refine am_getR (pc := 16) (j := 1) C dX2_bracketed_16 f2_9 bn_131 sh_131 (rf_131_0 hR) ?_
    refine am_bipush (pc := 19) (v := nI 41) C dX2_bracketed_19 (by decide) ?_
    refine am_callVir (Y := mX8_takeSign) (pc := 21) (st := []) (As := [.int (nI 41)]) (x := (am_b (rf_rSig t (rf_dp (Cc t (rf_dp (rf_oSig t o 40) (dd + 1)) w).2.1 dd) 41))) (PP := fun c9 => (rf_rSig t (rf_dp (Cc t (rf_dp (rf_oSig t o 40) (dd + 1)) w).2.1 dd) 41 = true → cl_to (c9) t (rf_oSig t (rf_dp (Cc t (rf_dp (rf_oSig t o 40) (dd + 1)) w).2.1 dd) 41)) ∧ (rf_rSig t (rf_dp (Cc t (rf_dp (rf_oSig t o 40) (dd + 1)) w).2.1 dd) 41 = false → c9 = (g9_1)) ∧ cl_fr (g9_1) c9 1 1) C dX2_bracketed_21 k2_37 v_X8_takeSign rfl rfl bn_1 sh_1 ⟨by decide, rfl⟩ (by omega) (Nat.zero_le _) (Nat.zero_le _) (Nat.le_of_ble_eq_true rfl) (c_X8_takeSign_o (h := g9_1) hR 41 t (rf_dp (Cc t (rf_dp (rf_oSig t o 40) (dd + 1)) w).2.1 dd) (show cl_to (g9_1) t (rf_dp (Cc t (rf_dp (rf_oSig t o 40) (dd + 1)) w).2.1 dd) from (cl_to_eq K9 rf_e_dp rf_SB_dp)) (show cl_sg 41 from (by unfold cl_sg; decide)) (show rf_To (rf_dp (Cc t (rf_dp (rf_oSig t o 40) (dd + 1)) w).2.1 dd) from cv.1)) (fun g21_2 hg21_2 => ?_)
    obtain ⟨T21, U21, F21⟩ := hg21_2
    have W21 := W9.a F21
    refine am_if_eqB (pc := 24) (tgt := 31) C dX2_bracketed_24 (by decide) (fun q24 => ?_) (fun q24 => ?_)
    · skip
      refine am_iconstN (pc := 31) (k := 0) C dX2_bracketed_31 ?_
      have E9 : rf_atP t dd (Cc t) (rf_oSig t o 40) w = (false, rf_oSig t (rf_dp (Cc t (rf_dp (rf_oSig t o 40) (dd + 1)) w).2.1 dd) 41, (Cc t (rf_dp (rf_oSig t o 40) (dd + 1)) w).2.2) := by rw [rf_atP, if_neg h6]; show (bif _ then _ else _) = _; rw [q12, q24]; rfl
      exact am_iretbr T dX2_bracketed_32 rfl (Nat.le_refl _) (Nat.le_refl _) (by rw [E9]; rfl) rfl (by rw [E9]; exact ⟨fun z => absurd z Bool.false_ne_true, fun _ => (by rw [U21 q24]; exact (cl_to_b K9).trans (congrArg nI ((rf_b_sig cv.1).trans rf_SB_dp).symm)), W21⟩)
    · skip
      refine am_iconstN (pc := 27) (k := 1) C dX2_bracketed_27 ?_
      refine am_goto (pc := 28) (tgt := 32) C dX2_bracketed_28 (by decide) ?_
      have E9 : rf_atP t dd (Cc t) (rf_oSig t o 40) w = (true, rf_oSig t (rf_dp (Cc t (rf_dp (rf_oSig t o 40) (dd + 1)) w).2.1 dd) 41, (Cc t (rf_dp (rf_oSig t o 40) (dd + 1)) w).2.2) := by rw [rf_atP, if_neg h6]; show (bif _ then _ else _) = _; rw [q12, q24]; rfl
      exact am_iretbr T dX2_bracketed_32 rfl (Nat.le_refl _) (Nat.le_refl _) (by rw [E9]; rfl) rfl (by rw [E9]; exact ⟨fun _ => ⟨T21 q24, (D9.a F21).n (rf_ems_pb.trans rf_ems_dp)⟩, fun z => absurd z (fun y => Bool.false_ne_true y.symm), W21⟩)

