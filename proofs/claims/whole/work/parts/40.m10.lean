/-! conditions: the contracts -/
section M10
def rf_PA (A : rf_W → rf_Rd) (dd d : Nat) : Prop := ∀ (ad : Nat → Nat) (r : am_R) (_ : am_rs r) (h : am_H) (_ : rf_cr (h 322)) (_ : (h 322) 13 = nI dd), am_CM mX12_readAtom d 0 0 [.ref 322] (am_VV ad) r h (am_po (some (.int (am_b (A (h 328) (h 322) (h 323)).1))) r (am_row (am_row h 322 (A (h 328) (h 322) (h 323)).2.1) 323 (A (h 328) (h 322) (h 323)).2.2))
def rf_PC (C : rf_W → rf_Rd) (dd d : Nat) : Prop := ∀ (ad : Nat → Nat) (r : am_R) (_ : am_rs r) (h : am_H) (_ : rf_cr (h 322)) (_ : (h 322) 13 = nI dd), am_CM mX12_readCond d 0 0 [.ref 322] (am_VV ad) r h (am_po (some (.int (am_b (C (h 328) (h 322) (h 323)).1))) r (am_row (am_row h 322 (C (h 328) (h 322) (h 323)).2.1) 323 (C (h 328) (h 322) (h 323)).2.2))
theorem rf_atm_p {t o w : rf_W} {d : Nat} {C A : rf_Rd} (h1 : rf_rSig t o 40 = true) : rf_atm t d C A o w = rf_atP t d C (rf_oSig t o 40) w := by rw [rf_atm, h1]; rfl
theorem rf_atm_n {t o w : rf_W} {d : Nat} {C A : rf_Rd} (h1 : rf_rSig t o 40 = false) (h2 : rf_rPas t (rf_oSig t o 40) 14 = true) : rf_atm t d C A o w = rf_atN d A (rf_o2 t o) w := by rw [rf_atm, h1, h2]; rfl
theorem rf_atm_a {t o w : rf_W} {d : Nat} {C A : rf_Rd} (h1 : rf_rSig t o 40 = false) (h2 : rf_rPas t (rf_oSig t o 40) 14 = false) (h3 : rf_rPas t (rf_o2 t o) 15 = true) : rf_atm t d C A o w = (true, rf_oEm (rf_o3 t o), rf_wEm (rf_o3 t o) w (nI 7) (nI 0)) := by rw [rf_atm, h1, h2, h3]; rfl
theorem rf_atm_0 {t o w : rf_W} {d : Nat} {C A : rf_Rd} (h1 : rf_rSig t o 40 = false) (h2 : rf_rPas t (rf_oSig t o 40) 14 = false) (h3 : rf_rPas t (rf_o2 t o) 15 = false) : rf_atm t d C A o w = rf_at0 t (rf_o3 t o) w := by rw [rf_atm, h1, h2, h3]; rfl
theorem rf_at0_t {t o w : rf_W} (h : (rf_sum t o w).1 = true) : rf_at0 t o w = rf_at1 t (rf_sum t o w).2.1 (rf_sum t o w).2.2 := by rw [rf_at0, h]; rfl
theorem rf_at1_l {t o w : rf_W} (h : rf_rSig t o 60 = true) : rf_at1 t o w = rf_at2 t 10 (rf_oSig t o 60) w := by rw [rf_at1, h]; rfl
theorem rf_at1_m {t o w : rf_W} (h : rf_rSig t o 60 = false) (h2 : rf_rSig t (rf_oSig t o 60) 62 = true) : rf_at1 t o w = rf_at2 t 11 (rf_oSig t (rf_oSig t o 60) 62) w := by rw [rf_at1, h, h2]; rfl
end M10

set_option maxHeartbeats 400000 in
set_option maxRecDepth 100000 in
theorem c_X12_readAllOf {ad : Nat → Nat} {r : am_R} (hR : am_rs r) {h : am_H}  (A : rf_W → rf_Rd) (dd : Nat) (d : Nat) (hd : 20 ≤ d) (hPA : rf_PA A dd d) (hgA : ∀ t, rf_good (A t) dd) (hcr : rf_cr (h 322)) (h13 : (h 322) 13 = nI dd)  : am_CM mX12_readAllOf (d + 1) 0 0 [.ref 322] (am_VV ad) r h (am_po (some (.int (am_b ((rf_allOf (h 328) (A (h 328)) (h 322) (h 323)).1)))) r (am_row (am_row h 322 ((rf_allOf (h 328) (A (h 328)) (h 322) (h 323)).2.1)) 323 ((rf_allOf (h 328) (A (h 328)) (h 322) (h 323)).2.2))) := by
  refine am_CM.of (by decide +kernel) (Nat.le_of_ble_eq_true rfl) (fun X C T => ?_)
  show am_G X (am_VV ad) (0, 0) 0 [(0, .ref 322)] [] r h
  have hT := hcr.1
  have hgR : rf_good (A (h 328)) dd := hgA _
  have hpt := hgR (h 322) (h 323) hcr h13
  have hlen : 0 < am_len 22 := by decide +kernel
  refine am_aload_n (pc := 0) C dX12_readAllOf_0 rfl ?_
  refine am_callVi (Y := mX12_readAtom) (pc := 1) (st := []) (As := []) (x := (am_b ((A (h 328) (h 322) (h 323)).1))) (h2 := (am_row (am_row h 322 ((A (h 328) (h 322) (h 323)).2.1)) 323 ((A (h 328) (h 322) (h 323)).2.2))) C dX12_readAllOf_1 k12_229 v_X12_readAtom rfl rfl bn_322 sh_322 ⟨by decide, rfl⟩ (by omega) (Nat.zero_le _) (Nat.zero_le _) (Nat.le_of_ble_eq_true rfl) (hPA _ _ hR _ hcr h13) ?_
  refine am_if_neB (pc := 4) (tgt := 9) C dX12_readAllOf_4 (by decide) (fun q4 => ?_) (fun q4 => ?_)
  · skip
    have L9 : ∀ (j9 : Nat) (o : rf_W) (w : rf_W), (hco : rf_cr o) → (ho13 : o 13 = nI dd) → (hfu : rf_e o - rf_p o < j9) → (hms : rf_opL (h 328) (A (h 328)) 22 13 j9 o w = rf_allOf (h 328) (A (h 328)) (h 322) (h 323)) → am_G X (am_VV ad) (0, 0) 9 [(0, .ref 322)] [] r (am_row (am_row h 322 o) 323 w) := by
      intro j9
      induction j9 with
      | zero =>
        intro o w hco ho13 hfu hms
        exact absurd hfu (by omega)
      | succ j9 ih9 =>
        intro o w hco ho13 hfu hms
        have hsg := rf_Tm_pas (t := h 328) (k := 22) hco.1
        have hp2 := hgR (rf_oPas (h 328) o 22) w (hsg.cr hco) ((hsg.2.2.1 13 (by decide) (by decide)).trans ho13)
        refine am_aload_n (pc := 9) C dX12_readAllOf_9 rfl ?_
        refine am_ldcs (pc := 10) (k := 22) (t := "and") C dX12_readAllOf_10 (by decide) (List.mem_of_getElem? (i := 67) rfl) ?_
        refine am_callVi (Y := mX12_passes) (pc := 12) (st := []) (As := [.ref (am_SB + 22)]) (x := (am_b (rf_rPas (h 328) o 22))) (h2 := (am_row (am_row (am_row h 322 o) 323 w) 322 (rf_oPas (h 328) o 22))) C dX12_readAllOf_12 k12_142 v_X12_passes rfl rfl bn_322 sh_322 ⟨by decide, rfl⟩ (by omega) (Nat.zero_le _) (Nat.zero_le _) (Nat.le_of_ble_eq_true rfl) (c_X12_passes hR 22 (show rf_To o from hco.1) (show 22 < am_TX.length from (by decide))) ?_
        refine am_hp (show (am_row (am_row (am_row h 322 o) 323 w) 322 (rf_oPas (h 328) o 22)) = (am_row (am_row h 322 (rf_oPas (h 328) o 22)) 323 w) from am_row_s1 (by decide)) ?_
        refine am_if_eqB (pc := 15) (tgt := 37) C dX12_readAllOf_15 (by decide) (fun q15 => ?_) (fun q15 => ?_)
        · skip
          refine am_iconstN (pc := 37) (k := 1) C dX12_readAllOf_37 ?_
          have E9 : rf_allOf (h 328) (A (h 328)) (h 322) (h 323) = (true, rf_oPas (h 328) o 22, w) := (by rw [← hms, rf_opL, q15]; rfl)
          exact am_iretb T dX12_readAllOf_38 rfl (Nat.le_refl _) (Nat.le_refl _) (by rw [E9] <;> rfl) rfl (by rw [E9] <;> exact rfl)
        · skip
          refine am_aload_n (pc := 18) C dX12_readAllOf_18 rfl ?_
          refine am_callVi (Y := mX12_readAtom) (pc := 19) (st := []) (As := []) (x := (am_b ((A (h 328) (rf_oPas (h 328) o 22) w).1))) (h2 := (am_row (am_row (am_row (am_row h 322 (rf_oPas (h 328) o 22)) 323 w) 322 ((A (h 328) (rf_oPas (h 328) o 22) w).2.1)) 323 ((A (h 328) (rf_oPas (h 328) o 22) w).2.2))) C dX12_readAllOf_19 k12_229 v_X12_readAtom rfl rfl bn_322 sh_322 ⟨by decide, rfl⟩ (by omega) (Nat.zero_le _) (Nat.zero_le _) (Nat.le_of_ble_eq_true rfl) (hPA _ _ hR _ (hsg.cr hco) ((hsg.2.2.1 13 (by decide) (by decide)).trans ho13)) ?_
          refine am_hp (show (am_row (am_row (am_row (am_row h 322 (rf_oPas (h 328) o 22)) 323 w) 322 ((A (h 328) (rf_oPas (h 328) o 22) w).2.1)) 323 ((A (h 328) (rf_oPas (h 328) o 22) w).2.2)) = (am_row (am_row (am_row h 322 ((A (h 328) (rf_oPas (h 328) o 22) w).2.1)) 323 w) 323 ((A (h 328) (rf_oPas (h 328) o 22) w).2.2)) from by rw [show (am_row (am_row (am_row h 322 (rf_oPas (h 328) o 22)) 323 w) 322 ((A (h 328) (rf_oPas (h 328) o 22) w).2.1)) = (am_row (am_row h 322 ((A (h 328) (rf_oPas (h 328) o 22) w).2.1)) 323 w) from am_row_s1 (by decide)]) ?_
          refine am_hp (show (am_row (am_row (am_row h 322 ((A (h 328) (rf_oPas (h 328) o 22) w).2.1)) 323 w) 323 ((A (h 328) (rf_oPas (h 328) o 22) w).2.2)) = (am_row (am_row h 322 ((A (h 328) (rf_oPas (h 328) o 22) w).2.1)) 323 ((A (h 328) (rf_oPas (h 328) o 22) w).2.2)) from am_row_s0) ?_
          refine am_if_neB (pc := 22) (tgt := 27) C dX12_readAllOf_22 (by decide) (fun q22 => ?_) (fun q22 => ?_)
          · skip
            obtain ⟨g1, g2⟩ := rf_Tg_op hco hsg (by have := rf_pas_s hco.1 hlen q15; omega) (hp2.2 q22)
            refine am_aload_n (pc := 27) C dX12_readAllOf_27 rfl ?_
            refine am_bipush (pc := 28) (v := nI 13) C dX12_readAllOf_28 (by decide) ?_
            refine am_iconstN (pc := 30) (k := 0) C dX12_readAllOf_30 ?_
            refine am_callVv (Y := mX12_emits) (pc := 31) (st := []) (As := [.int (nI 13), .int (nI 0)]) (h2 := (am_row (am_row (am_row (am_row h 322 ((A (h 328) (rf_oPas (h 328) o 22) w).2.1)) 323 ((A (h 328) (rf_oPas (h 328) o 22) w).2.2)) 322 (rf_oEm ((A (h 328) (rf_oPas (h 328) o 22) w).2.1))) 323 (rf_wEm ((A (h 328) (rf_oPas (h 328) o 22) w).2.1) ((A (h 328) (rf_oPas (h 328) o 22) w).2.2) (nI 13) (nI 0)))) C dX12_readAllOf_31 k12_200 v_X12_emits rfl rfl bn_322 sh_322 ⟨by decide, rfl⟩ (by omega) (Nat.zero_le _) (Nat.zero_le _) (Nat.le_of_ble_eq_true rfl) (c_X12_emits hR (nI 13) (nI 0) (show rf_n (((A (h 328) (rf_oPas (h 328) o 22) w).2.1) 16) 400 from (((hp2.2 q22).cr (hsg.cr hco)).n))) ?_
            refine am_hp (show (am_row (am_row (am_row (am_row h 322 ((A (h 328) (rf_oPas (h 328) o 22) w).2.1)) 323 ((A (h 328) (rf_oPas (h 328) o 22) w).2.2)) 322 (rf_oEm ((A (h 328) (rf_oPas (h 328) o 22) w).2.1))) 323 (rf_wEm ((A (h 328) (rf_oPas (h 328) o 22) w).2.1) ((A (h 328) (rf_oPas (h 328) o 22) w).2.2) (nI 13) (nI 0))) = (am_row (am_row (am_row h 322 (rf_oEm ((A (h 328) (rf_oPas (h 328) o 22) w).2.1))) 323 ((A (h 328) (rf_oPas (h 328) o 22) w).2.2)) 323 (rf_wEm ((A (h 328) (rf_oPas (h 328) o 22) w).2.1) ((A (h 328) (rf_oPas (h 328) o 22) w).2.2) (nI 13) (nI 0))) from by rw [show (am_row (am_row (am_row h 322 ((A (h 328) (rf_oPas (h 328) o 22) w).2.1)) 323 ((A (h 328) (rf_oPas (h 328) o 22) w).2.2)) 322 (rf_oEm ((A (h 328) (rf_oPas (h 328) o 22) w).2.1))) = (am_row (am_row h 322 (rf_oEm ((A (h 328) (rf_oPas (h 328) o 22) w).2.1))) 323 ((A (h 328) (rf_oPas (h 328) o 22) w).2.2)) from am_row_s1 (by decide)]) ?_
            refine am_hp (show (am_row (am_row (am_row h 322 (rf_oEm ((A (h 328) (rf_oPas (h 328) o 22) w).2.1))) 323 ((A (h 328) (rf_oPas (h 328) o 22) w).2.2)) 323 (rf_wEm ((A (h 328) (rf_oPas (h 328) o 22) w).2.1) ((A (h 328) (rf_oPas (h 328) o 22) w).2.2) (nI 13) (nI 0))) = (am_row (am_row h 322 (rf_oEm ((A (h 328) (rf_oPas (h 328) o 22) w).2.1))) 323 (rf_wEm ((A (h 328) (rf_oPas (h 328) o 22) w).2.1) ((A (h 328) (rf_oPas (h 328) o 22) w).2.2) (nI 13) (nI 0))) from am_row_s0) ?_
            refine am_goto (pc := 34) (tgt := 9) C dX12_readAllOf_34 (by decide) ?_
            refine am_hp (show (am_row (am_row h 322 (rf_oEm ((A (h 328) (rf_oPas (h 328) o 22) w).2.1))) 323 (rf_wEm ((A (h 328) (rf_oPas (h 328) o 22) w).2.1) ((A (h 328) (rf_oPas (h 328) o 22) w).2.2) (nI 13) (nI 0))) = (am_row (am_row h 322 (rf_oEm (A (h 328) (rf_oPas (h 328) o 22) w).2.1)) 323 (rf_wEm (A (h 328) (rf_oPas (h 328) o 22) w).2.1 (A (h 328) (rf_oPas (h 328) o 22) w).2.2 (nI 13) (nI 0))) from rfl) ?_
            exact ih9 (rf_oEm (A (h 328) (rf_oPas (h 328) o 22) w).2.1) (rf_wEm (A (h 328) (rf_oPas (h 328) o 22) w).2.1 (A (h 328) (rf_oPas (h 328) o 22) w).2.2 (nI 13) (nI 0)) (g1.cr hco) (g1.2.2.trans ho13) (by have c9 : rf_p o ≤ rf_e o := hco.1.2.2.1; have d9 : rf_p (rf_oEm (A (h 328) (rf_oPas (h 328) o 22) w).2.1) ≤ rf_e (rf_oEm (A (h 328) (rf_oPas (h 328) o 22) w).2.1) := g1.1.1.2.2.1; rw [g1.1.e] at d9 ⊢; omega) (by rw [← hms, rf_opL, q15]; show _ = bif _ then _ else _; rw [q22]; rfl)
          · skip
            refine am_iconstN (pc := 25) (k := 0) C dX12_readAllOf_25 ?_
            have E9 : rf_allOf (h 328) (A (h 328)) (h 322) (h 323) = (false, (A (h 328) (rf_oPas (h 328) o 22) w).2.1, (A (h 328) (rf_oPas (h 328) o 22) w).2.2) := (by rw [← hms, rf_opL, q15]; show (bif _ then _ else _) = _; rw [q22]; rfl)
            exact am_iretb T dX12_readAllOf_26 rfl (Nat.le_refl _) (Nat.le_refl _) (by rw [E9] <;> rfl) rfl (by rw [E9] <;> exact rfl)
    exact L9 402 ((A (h 328) (h 322) (h 323)).2.1) ((A (h 328) (h 322) (h 323)).2.2) ((hpt.2 q4).cr hcr) ((hpt.2 q4).2.2.trans h13) (by have := hpt.1.1.2.1.2; unfold rf_e; omega) (by rw [rf_allOf, rf_opE, q4]; rfl)
  · skip
    refine am_iconstN (pc := 7) (k := 0) C dX12_readAllOf_7 ?_
    have E9 : rf_allOf (h 328) (A (h 328)) (h 322) (h 323) = (false, (A (h 328) (h 322) (h 323)).2.1, (A (h 328) (h 322) (h 323)).2.2) := (by rw [rf_allOf, rf_opE, q4]; rfl)
    exact am_iretb T dX12_readAllOf_8 rfl (Nat.le_refl _) (Nat.le_refl _) (by rw [E9] <;> rfl) rfl (by rw [E9] <;> exact rfl)

set_option maxHeartbeats 400000 in
set_option maxRecDepth 100000 in
theorem c_X12_readCond {ad : Nat → Nat} {r : am_R} (hR : am_rs r) {h : am_H}  (A : rf_W → rf_Rd) (dd : Nat) (d : Nat) (hd : 20 ≤ d) (hPA : rf_PA A dd d) (hgA : ∀ t, rf_good (A t) dd) (hcr : rf_cr (h 322)) (h13 : (h 322) 13 = nI dd)  : am_CM mX12_readCond (d + 2) 0 0 [.ref 322] (am_VV ad) r h (am_po (some (.int (am_b ((rf_cond (h 328) (A (h 328)) (h 322) (h 323)).1)))) r (am_row (am_row h 322 ((rf_cond (h 328) (A (h 328)) (h 322) (h 323)).2.1)) 323 ((rf_cond (h 328) (A (h 328)) (h 322) (h 323)).2.2))) := by
  refine am_CM.of (by decide +kernel) (Nat.le_of_ble_eq_true rfl) (fun X C T => ?_)
  show am_G X (am_VV ad) (0, 0) 0 [(0, .ref 322)] [] r h
  have hT := hcr.1
  have hgR : rf_good (rf_allOf (h 328) (A (h 328))) dd := rf_good_allOf (hgA _)
  have hpt := hgR (h 322) (h 323) hcr h13
  have hlen : 0 < am_len 23 := by decide +kernel
  refine am_aload_n (pc := 0) C dX12_readCond_0 rfl ?_
  refine am_callVi (Y := mX12_readAllOf) (pc := 1) (st := []) (As := []) (x := (am_b ((rf_allOf (h 328) (A (h 328)) (h 322) (h 323)).1))) (h2 := (am_row (am_row h 322 ((rf_allOf (h 328) (A (h 328)) (h 322) (h 323)).2.1)) 323 ((rf_allOf (h 328) (A (h 328)) (h 322) (h 323)).2.2))) C dX12_readCond_1 k12_239 v_X12_readAllOf rfl rfl bn_322 sh_322 ⟨by decide, rfl⟩ (by omega) (Nat.zero_le _) (Nat.zero_le _) (Nat.le_of_ble_eq_true rfl) (c_X12_readAllOf hR A dd d hd hPA hgA hcr h13) ?_
  refine am_if_neB (pc := 4) (tgt := 9) C dX12_readCond_4 (by decide) (fun q4 => ?_) (fun q4 => ?_)
  · skip
    have L9 : ∀ (j9 : Nat) (o : rf_W) (w : rf_W), (hco : rf_cr o) → (ho13 : o 13 = nI dd) → (hfu : rf_e o - rf_p o < j9) → (hms : rf_opL (h 328) (rf_allOf (h 328) (A (h 328))) 23 14 j9 o w = rf_cond (h 328) (A (h 328)) (h 322) (h 323)) → am_G X (am_VV ad) (0, 0) 9 [(0, .ref 322)] [] r (am_row (am_row h 322 o) 323 w) := by
      intro j9
      induction j9 with
      | zero =>
        intro o w hco ho13 hfu hms
        exact absurd hfu (by omega)
      | succ j9 ih9 =>
        intro o w hco ho13 hfu hms
        have hsg := rf_Tm_pas (t := h 328) (k := 23) hco.1
        have hp2 := hgR (rf_oPas (h 328) o 23) w (hsg.cr hco) ((hsg.2.2.1 13 (by decide) (by decide)).trans ho13)
        refine am_aload_n (pc := 9) C dX12_readCond_9 rfl ?_
        refine am_ldcs (pc := 10) (k := 23) (t := "or") C dX12_readCond_10 (by decide) (List.mem_of_getElem? (i := 68) rfl) ?_
        refine am_callVi (Y := mX12_passes) (pc := 12) (st := []) (As := [.ref (am_SB + 23)]) (x := (am_b (rf_rPas (h 328) o 23))) (h2 := (am_row (am_row (am_row h 322 o) 323 w) 322 (rf_oPas (h 328) o 23))) C dX12_readCond_12 k12_142 v_X12_passes rfl rfl bn_322 sh_322 ⟨by decide, rfl⟩ (by omega) (Nat.zero_le _) (Nat.zero_le _) (Nat.le_of_ble_eq_true rfl) (c_X12_passes hR 23 (show rf_To o from hco.1) (show 23 < am_TX.length from (by decide))) ?_
        refine am_hp (show (am_row (am_row (am_row h 322 o) 323 w) 322 (rf_oPas (h 328) o 23)) = (am_row (am_row h 322 (rf_oPas (h 328) o 23)) 323 w) from am_row_s1 (by decide)) ?_
        refine am_if_eqB (pc := 15) (tgt := 37) C dX12_readCond_15 (by decide) (fun q15 => ?_) (fun q15 => ?_)
        · skip
          refine am_iconstN (pc := 37) (k := 1) C dX12_readCond_37 ?_
          have E9 : rf_cond (h 328) (A (h 328)) (h 322) (h 323) = (true, rf_oPas (h 328) o 23, w) := (by rw [← hms, rf_opL, q15]; rfl)
          exact am_iretb T dX12_readCond_38 rfl (Nat.le_refl _) (Nat.le_refl _) (by rw [E9] <;> rfl) rfl (by rw [E9] <;> exact rfl)
        · skip
          refine am_aload_n (pc := 18) C dX12_readCond_18 rfl ?_
          refine am_callVi (Y := mX12_readAllOf) (pc := 19) (st := []) (As := []) (x := (am_b ((rf_allOf (h 328) (A (h 328)) (rf_oPas (h 328) o 23) w).1))) (h2 := (am_row (am_row (am_row (am_row h 322 (rf_oPas (h 328) o 23)) 323 w) 322 ((rf_allOf (h 328) (A (h 328)) (rf_oPas (h 328) o 23) w).2.1)) 323 ((rf_allOf (h 328) (A (h 328)) (rf_oPas (h 328) o 23) w).2.2))) C dX12_readCond_19 k12_239 v_X12_readAllOf rfl rfl bn_322 sh_322 ⟨by decide, rfl⟩ (by omega) (Nat.zero_le _) (Nat.zero_le _) (Nat.le_of_ble_eq_true rfl) (c_X12_readAllOf hR A dd d hd hPA hgA (hsg.cr hco) ((hsg.2.2.1 13 (by decide) (by decide)).trans ho13)) ?_
          refine am_hp (show (am_row (am_row (am_row (am_row h 322 (rf_oPas (h 328) o 23)) 323 w) 322 ((rf_allOf (h 328) (A (h 328)) (rf_oPas (h 328) o 23) w).2.1)) 323 ((rf_allOf (h 328) (A (h 328)) (rf_oPas (h 328) o 23) w).2.2)) = (am_row (am_row (am_row h 322 ((rf_allOf (h 328) (A (h 328)) (rf_oPas (h 328) o 23) w).2.1)) 323 w) 323 ((rf_allOf (h 328) (A (h 328)) (rf_oPas (h 328) o 23) w).2.2)) from by rw [show (am_row (am_row (am_row h 322 (rf_oPas (h 328) o 23)) 323 w) 322 ((rf_allOf (h 328) (A (h 328)) (rf_oPas (h 328) o 23) w).2.1)) = (am_row (am_row h 322 ((rf_allOf (h 328) (A (h 328)) (rf_oPas (h 328) o 23) w).2.1)) 323 w) from am_row_s1 (by decide)]) ?_
          refine am_hp (show (am_row (am_row (am_row h 322 ((rf_allOf (h 328) (A (h 328)) (rf_oPas (h 328) o 23) w).2.1)) 323 w) 323 ((rf_allOf (h 328) (A (h 328)) (rf_oPas (h 328) o 23) w).2.2)) = (am_row (am_row h 322 ((rf_allOf (h 328) (A (h 328)) (rf_oPas (h 328) o 23) w).2.1)) 323 ((rf_allOf (h 328) (A (h 328)) (rf_oPas (h 328) o 23) w).2.2)) from am_row_s0) ?_
          refine am_if_neB (pc := 22) (tgt := 27) C dX12_readCond_22 (by decide) (fun q22 => ?_) (fun q22 => ?_)
          · skip
            obtain ⟨g1, g2⟩ := rf_Tg_op hco hsg (by have := rf_pas_s hco.1 hlen q15; omega) (hp2.2 q22)
            refine am_aload_n (pc := 27) C dX12_readCond_27 rfl ?_
            refine am_bipush (pc := 28) (v := nI 14) C dX12_readCond_28 (by decide) ?_
            refine am_iconstN (pc := 30) (k := 0) C dX12_readCond_30 ?_
            refine am_callVv (Y := mX12_emits) (pc := 31) (st := []) (As := [.int (nI 14), .int (nI 0)]) (h2 := (am_row (am_row (am_row (am_row h 322 ((rf_allOf (h 328) (A (h 328)) (rf_oPas (h 328) o 23) w).2.1)) 323 ((rf_allOf (h 328) (A (h 328)) (rf_oPas (h 328) o 23) w).2.2)) 322 (rf_oEm ((rf_allOf (h 328) (A (h 328)) (rf_oPas (h 328) o 23) w).2.1))) 323 (rf_wEm ((rf_allOf (h 328) (A (h 328)) (rf_oPas (h 328) o 23) w).2.1) ((rf_allOf (h 328) (A (h 328)) (rf_oPas (h 328) o 23) w).2.2) (nI 14) (nI 0)))) C dX12_readCond_31 k12_200 v_X12_emits rfl rfl bn_322 sh_322 ⟨by decide, rfl⟩ (by omega) (Nat.zero_le _) (Nat.zero_le _) (Nat.le_of_ble_eq_true rfl) (c_X12_emits hR (nI 14) (nI 0) (show rf_n (((rf_allOf (h 328) (A (h 328)) (rf_oPas (h 328) o 23) w).2.1) 16) 400 from (((hp2.2 q22).cr (hsg.cr hco)).n))) ?_
            refine am_hp (show (am_row (am_row (am_row (am_row h 322 ((rf_allOf (h 328) (A (h 328)) (rf_oPas (h 328) o 23) w).2.1)) 323 ((rf_allOf (h 328) (A (h 328)) (rf_oPas (h 328) o 23) w).2.2)) 322 (rf_oEm ((rf_allOf (h 328) (A (h 328)) (rf_oPas (h 328) o 23) w).2.1))) 323 (rf_wEm ((rf_allOf (h 328) (A (h 328)) (rf_oPas (h 328) o 23) w).2.1) ((rf_allOf (h 328) (A (h 328)) (rf_oPas (h 328) o 23) w).2.2) (nI 14) (nI 0))) = (am_row (am_row (am_row h 322 (rf_oEm ((rf_allOf (h 328) (A (h 328)) (rf_oPas (h 328) o 23) w).2.1))) 323 ((rf_allOf (h 328) (A (h 328)) (rf_oPas (h 328) o 23) w).2.2)) 323 (rf_wEm ((rf_allOf (h 328) (A (h 328)) (rf_oPas (h 328) o 23) w).2.1) ((rf_allOf (h 328) (A (h 328)) (rf_oPas (h 328) o 23) w).2.2) (nI 14) (nI 0))) from by rw [show (am_row (am_row (am_row h 322 ((rf_allOf (h 328) (A (h 328)) (rf_oPas (h 328) o 23) w).2.1)) 323 ((rf_allOf (h 328) (A (h 328)) (rf_oPas (h 328) o 23) w).2.2)) 322 (rf_oEm ((rf_allOf (h 328) (A (h 328)) (rf_oPas (h 328) o 23) w).2.1))) = (am_row (am_row h 322 (rf_oEm ((rf_allOf (h 328) (A (h 328)) (rf_oPas (h 328) o 23) w).2.1))) 323 ((rf_allOf (h 328) (A (h 328)) (rf_oPas (h 328) o 23) w).2.2)) from am_row_s1 (by decide)]) ?_
            refine am_hp (show (am_row (am_row (am_row h 322 (rf_oEm ((rf_allOf (h 328) (A (h 328)) (rf_oPas (h 328) o 23) w).2.1))) 323 ((rf_allOf (h 328) (A (h 328)) (rf_oPas (h 328) o 23) w).2.2)) 323 (rf_wEm ((rf_allOf (h 328) (A (h 328)) (rf_oPas (h 328) o 23) w).2.1) ((rf_allOf (h 328) (A (h 328)) (rf_oPas (h 328) o 23) w).2.2) (nI 14) (nI 0))) = (am_row (am_row h 322 (rf_oEm ((rf_allOf (h 328) (A (h 328)) (rf_oPas (h 328) o 23) w).2.1))) 323 (rf_wEm ((rf_allOf (h 328) (A (h 328)) (rf_oPas (h 328) o 23) w).2.1) ((rf_allOf (h 328) (A (h 328)) (rf_oPas (h 328) o 23) w).2.2) (nI 14) (nI 0))) from am_row_s0) ?_
            refine am_goto (pc := 34) (tgt := 9) C dX12_readCond_34 (by decide) ?_
            refine am_hp (show (am_row (am_row h 322 (rf_oEm ((rf_allOf (h 328) (A (h 328)) (rf_oPas (h 328) o 23) w).2.1))) 323 (rf_wEm ((rf_allOf (h 328) (A (h 328)) (rf_oPas (h 328) o 23) w).2.1) ((rf_allOf (h 328) (A (h 328)) (rf_oPas (h 328) o 23) w).2.2) (nI 14) (nI 0))) = (am_row (am_row h 322 (rf_oEm (rf_allOf (h 328) (A (h 328)) (rf_oPas (h 328) o 23) w).2.1)) 323 (rf_wEm (rf_allOf (h 328) (A (h 328)) (rf_oPas (h 328) o 23) w).2.1 (rf_allOf (h 328) (A (h 328)) (rf_oPas (h 328) o 23) w).2.2 (nI 14) (nI 0))) from rfl) ?_
            exact ih9 (rf_oEm (rf_allOf (h 328) (A (h 328)) (rf_oPas (h 328) o 23) w).2.1) (rf_wEm (rf_allOf (h 328) (A (h 328)) (rf_oPas (h 328) o 23) w).2.1 (rf_allOf (h 328) (A (h 328)) (rf_oPas (h 328) o 23) w).2.2 (nI 14) (nI 0)) (g1.cr hco) (g1.2.2.trans ho13) (by have c9 : rf_p o ≤ rf_e o := hco.1.2.2.1; have d9 : rf_p (rf_oEm (rf_allOf (h 328) (A (h 328)) (rf_oPas (h 328) o 23) w).2.1) ≤ rf_e (rf_oEm (rf_allOf (h 328) (A (h 328)) (rf_oPas (h 328) o 23) w).2.1) := g1.1.1.2.2.1; rw [g1.1.e] at d9 ⊢; omega) (by rw [← hms, rf_opL, q15]; show _ = bif _ then _ else _; rw [q22]; rfl)
          · skip
            refine am_iconstN (pc := 25) (k := 0) C dX12_readCond_25 ?_
            have E9 : rf_cond (h 328) (A (h 328)) (h 322) (h 323) = (false, (rf_allOf (h 328) (A (h 328)) (rf_oPas (h 328) o 23) w).2.1, (rf_allOf (h 328) (A (h 328)) (rf_oPas (h 328) o 23) w).2.2) := (by rw [← hms, rf_opL, q15]; show (bif _ then _ else _) = _; rw [q22]; rfl)
            exact am_iretb T dX12_readCond_26 rfl (Nat.le_refl _) (Nat.le_refl _) (by rw [E9] <;> rfl) rfl (by rw [E9] <;> exact rfl)
    exact L9 402 ((rf_allOf (h 328) (A (h 328)) (h 322) (h 323)).2.1) ((rf_allOf (h 328) (A (h 328)) (h 322) (h 323)).2.2) ((hpt.2 q4).cr hcr) ((hpt.2 q4).2.2.trans h13) (by have := hpt.1.1.2.1.2; unfold rf_e; omega) (by rw [rf_cond, rf_opE, q4]; rfl)
  · skip
    refine am_iconstN (pc := 7) (k := 0) C dX12_readCond_7 ?_
    have E9 : rf_cond (h 328) (A (h 328)) (h 322) (h 323) = (false, (rf_allOf (h 328) (A (h 328)) (h 322) (h 323)).2.1, (rf_allOf (h 328) (A (h 328)) (h 322) (h 323)).2.2) := (by rw [rf_cond, rf_opE, q4]; rfl)
    exact am_iretb T dX12_readCond_8 rfl (Nat.le_refl _) (Nat.le_refl _) (by rw [E9] <;> rfl) rfl (by rw [E9] <;> exact rfl)

set_option maxHeartbeats 400000 in
set_option maxRecDepth 100000 in
theorem c_X12_readAtom {ad : Nat → Nat} {r : am_R} (hR : am_rs r) {h : am_H}  (Cc : rf_W → rf_Rd) (A : rf_W → rf_Rd) (dd : Nat) (dA : Nat) (dC : Nat) (d : Nat) (hd : 20 ≤ d) (hdA : dA ≤ d) (hdC : dC ≤ d) (hdd : dd ≤ 6) (hPC : dd ≠ 6 → rf_PC Cc (dd + 1) dC) (hPA : dd ≠ 6 → rf_PA A (dd + 1) dA) (hgC : ∀ t, dd ≠ 6 → rf_good (Cc t) (dd + 1)) (hgA : ∀ t, dd ≠ 6 → rf_good (A t) (dd + 1)) (hcr : rf_cr (h 322)) (h13 : (h 322) 13 = nI dd)  : am_CM mX12_readAtom (d + 1) 0 0 [.ref 322] (am_VV ad) r h (am_po (some (.int (am_b ((rf_atm (h 328) dd (Cc (h 328)) (A (h 328)) (h 322) (h 323)).1)))) r (am_row (am_row h 322 ((rf_atm (h 328) dd (Cc (h 328)) (A (h 328)) (h 322) (h 323)).2.1)) 323 ((rf_atm (h 328) dd (Cc (h 328)) (A (h 328)) (h 322) (h 323)).2.2))) := by
  refine am_CM.of (by decide +kernel) (Nat.le_of_ble_eq_true rfl) (fun X C T => ?_)
  show am_G X (am_VV ad) (0, 0) 0 [(0, .ref 322)] [] r h
  have hT := hcr.1
  have h1 := rf_Tm_sig (t := h 328) (c := 40) hcr.1
  have h2 := rf_Tm_pas (t := h 328) (k := 14) h1.1
  have h3 := rf_Tm_pas (t := h 328) (k := 15) h2.1
  have c1 := h1.cr hcr
  have c2 := h2.cr c1
  have c3 := h3.cr c2
  refine am_aload_n (pc := 0) C dX12_readAtom_0 rfl ?_
  refine am_bipush (pc := 1) (v := nI 40) C dX12_readAtom_1 (by decide) ?_
  refine am_callVi (Y := mX12_sign) (pc := 3) (st := []) (As := [.int (nI 40)]) (x := (am_b (rf_rSig (h 328) (h 322) 40))) (h2 := (am_row h 322 (rf_oSig (h 328) (h 322) 40))) C dX12_readAtom_3 k12_217 v_X12_sign rfl rfl bn_322 sh_322 ⟨by decide, rfl⟩ (by omega) (Nat.zero_le _) (Nat.zero_le _) (Nat.le_of_ble_eq_true rfl) (c_X12_sign hR 40 (show rf_To (h 322) from hT)) ?_
  refine am_if_eqB (pc := 6) (tgt := 56) C dX12_readAtom_6 (by decide) (fun q6 => ?_) (fun q6 => ?_)
  · skip
    refine am_aload_n (pc := 56) C dX12_readAtom_56 rfl ?_
    refine am_ldcs (pc := 57) (k := 14) (t := "not") C dX12_readAtom_57 (by decide) (List.mem_of_getElem? (i := 59) rfl) ?_
    refine am_callVi (Y := mX12_passes) (pc := 59) (st := []) (As := [.ref (am_SB + 14)]) (x := (am_b (rf_rPas (h 328) (rf_oSig (h 328) (h 322) 40) 14))) (h2 := (am_row (am_row h 322 (rf_oSig (h 328) (h 322) 40)) 322 (rf_oPas (h 328) (rf_oSig (h 328) (h 322) 40) 14))) C dX12_readAtom_59 k12_142 v_X12_passes rfl rfl bn_322 sh_322 ⟨by decide, rfl⟩ (by omega) (Nat.zero_le _) (Nat.zero_le _) (Nat.le_of_ble_eq_true rfl) (c_X12_passes hR 14 (show rf_To (rf_oSig (h 328) (h 322) 40) from h1.1) (show 14 < am_TX.length from (by decide))) ?_
    refine am_hp (show (am_row (am_row h 322 (rf_oSig (h 328) (h 322) 40)) 322 (rf_oPas (h 328) (rf_oSig (h 328) (h 322) 40) 14)) = (am_row h 322 (rf_oPas (h 328) (rf_oSig (h 328) (h 322) 40) 14)) from am_row_s0) ?_
    refine am_hp (show (am_row h 322 (rf_oPas (h 328) (rf_oSig (h 328) (h 322) 40) 14)) = (am_row h 322 (rf_o2 (h 328) (h 322))) from rfl) ?_
    refine am_if_eqB (pc := 62) (tgt := 114) C dX12_readAtom_62 (by decide) (fun q62 => ?_) (fun q62 => ?_)
    · skip
      refine am_aload_n (pc := 114) C dX12_readAtom_114 rfl ?_
      refine am_ldcs (pc := 115) (k := 15) (t := "alone") C dX12_readAtom_115 (by decide) (List.mem_of_getElem? (i := 60) rfl) ?_
      refine am_callVi (Y := mX12_passes) (pc := 117) (st := []) (As := [.ref (am_SB + 15)]) (x := (am_b (rf_rPas (h 328) (rf_o2 (h 328) (h 322)) 15))) (h2 := (am_row (am_row h 322 (rf_o2 (h 328) (h 322))) 322 (rf_oPas (h 328) (rf_o2 (h 328) (h 322)) 15))) C dX12_readAtom_117 k12_142 v_X12_passes rfl rfl bn_322 sh_322 ⟨by decide, rfl⟩ (by omega) (Nat.zero_le _) (Nat.zero_le _) (Nat.le_of_ble_eq_true rfl) (c_X12_passes hR 15 (show rf_To (rf_o2 (h 328) (h 322)) from h2.1) (show 15 < am_TX.length from (by decide))) ?_
      refine am_hp (show (am_row (am_row h 322 (rf_o2 (h 328) (h 322))) 322 (rf_oPas (h 328) (rf_o2 (h 328) (h 322)) 15)) = (am_row h 322 (rf_oPas (h 328) (rf_o2 (h 328) (h 322)) 15)) from am_row_s0) ?_
      refine am_hp (show (am_row h 322 (rf_oPas (h 328) (rf_o2 (h 328) (h 322)) 15)) = (am_row h 322 (rf_o3 (h 328) (h 322))) from rfl) ?_
      refine am_if_eqB (pc := 120) (tgt := 132) C dX12_readAtom_120 (by decide) (fun q120 => ?_) (fun q120 => ?_)
      · skip
        refine am_aload_n (pc := 132) C dX12_readAtom_132 rfl ?_
        refine am_callVi (Y := mX12_readSum) (pc := 133) (st := []) (As := []) (x := (am_b ((rf_sum (h 328) (rf_o3 (h 328) (h 322)) (h 323)).1))) (h2 := (am_row (am_row (am_row h 322 (rf_o3 (h 328) (h 322))) 322 ((rf_sum (h 328) (rf_o3 (h 328) (h 322)) (h 323)).2.1)) 323 ((rf_sum (h 328) (rf_o3 (h 328) (h 322)) (h 323)).2.2))) C dX12_readAtom_133 k12_234 v_X12_readSum rfl rfl bn_322 sh_322 ⟨by decide, rfl⟩ (by omega) (Nat.zero_le _) (Nat.zero_le _) (Nat.le_of_ble_eq_true rfl) (c_X12_readSum hR (show rf_cr (rf_o3 (h 328) (h 322)) from c3)) ?_
        refine am_hp (show (am_row (am_row (am_row h 322 (rf_o3 (h 328) (h 322))) 322 ((rf_sum (h 328) (rf_o3 (h 328) (h 322)) (h 323)).2.1)) 323 ((rf_sum (h 328) (rf_o3 (h 328) (h 322)) (h 323)).2.2)) = (am_row (am_row h 322 ((rf_sum (h 328) (rf_o3 (h 328) (h 322)) (h 323)).2.1)) 323 ((rf_sum (h 328) (rf_o3 (h 328) (h 322)) (h 323)).2.2)) from by rw [show (am_row (am_row h 322 (rf_o3 (h 328) (h 322))) 322 ((rf_sum (h 328) (rf_o3 (h 328) (h 322)) (h 323)).2.1)) = (am_row h 322 ((rf_sum (h 328) (rf_o3 (h 328) (h 322)) (h 323)).2.1)) from am_row_s0]) ?_
        refine am_if_neB (pc := 136) (tgt := 141) C dX12_readAtom_136 (by decide) (fun q136 => ?_) (fun q136 => ?_)
        · skip
          have hs9 := rf_Tq_sum (t := h 328) (w := h 323) c3
          have gs := hs9.2 q136
          have cg := gs.cr c3
          have s60 := rf_Tm_sig (t := h 328) (c := 60) cg.1
          refine am_aload_n (pc := 141) C dX12_readAtom_141 rfl ?_
          refine am_bipush (pc := 142) (v := nI 60) C dX12_readAtom_142 (by decide) ?_
          refine am_callVi (Y := mX12_sign) (pc := 144) (st := []) (As := [.int (nI 60)]) (x := (am_b (rf_rSig (h 328) ((rf_sum (h 328) (rf_o3 (h 328) (h 322)) (h 323)).2.1) 60))) (h2 := (am_row (am_row (am_row h 322 ((rf_sum (h 328) (rf_o3 (h 328) (h 322)) (h 323)).2.1)) 323 ((rf_sum (h 328) (rf_o3 (h 328) (h 322)) (h 323)).2.2)) 322 (rf_oSig (h 328) ((rf_sum (h 328) (rf_o3 (h 328) (h 322)) (h 323)).2.1) 60))) C dX12_readAtom_144 k12_217 v_X12_sign rfl rfl bn_322 sh_322 ⟨by decide, rfl⟩ (by omega) (Nat.zero_le _) (Nat.zero_le _) (Nat.le_of_ble_eq_true rfl) (c_X12_sign hR 60 (show rf_To ((rf_sum (h 328) (rf_o3 (h 328) (h 322)) (h 323)).2.1) from cg.1)) ?_
          refine am_hp (show (am_row (am_row (am_row h 322 ((rf_sum (h 328) (rf_o3 (h 328) (h 322)) (h 323)).2.1)) 323 ((rf_sum (h 328) (rf_o3 (h 328) (h 322)) (h 323)).2.2)) 322 (rf_oSig (h 328) ((rf_sum (h 328) (rf_o3 (h 328) (h 322)) (h 323)).2.1) 60)) = (am_row (am_row h 322 (rf_oSig (h 328) ((rf_sum (h 328) (rf_o3 (h 328) (h 322)) (h 323)).2.1) 60)) 323 ((rf_sum (h 328) (rf_o3 (h 328) (h 322)) (h 323)).2.2)) from am_row_s1 (by decide)) ?_
          refine am_istore_n (pc := 147) (ls' := [(0, .ref 322), (1, .int (am_b (rf_rSig (h 328) ((rf_sum (h 328) (rf_o3 (h 328) (h 322)) (h 323)).2.1) 60)))]) C dX12_readAtom_147 (by decide) rfl ?_
          refine am_iload_n (pc := 148) C dX12_readAtom_148 rfl ?_
          refine am_if_neB (pc := 149) (tgt := 161) C dX12_readAtom_149 (by decide) (fun q149 => ?_) (fun q149 => ?_)
          · skip
            have cS := s60.cr cg
            refine am_aload_n (pc := 161) C dX12_readAtom_161 rfl ?_
            refine am_callVi (Y := mX12_readSum) (pc := 162) (st := []) (As := []) (x := (am_b ((rf_sum (h 328) (rf_oSig (h 328) ((rf_sum (h 328) (rf_o3 (h 328) (h 322)) (h 323)).2.1) 60) ((rf_sum (h 328) (rf_o3 (h 328) (h 322)) (h 323)).2.2)).1))) (h2 := (am_row (am_row (am_row (am_row h 322 (rf_oSig (h 328) ((rf_sum (h 328) (rf_o3 (h 328) (h 322)) (h 323)).2.1) 60)) 323 ((rf_sum (h 328) (rf_o3 (h 328) (h 322)) (h 323)).2.2)) 322 ((rf_sum (h 328) (rf_oSig (h 328) ((rf_sum (h 328) (rf_o3 (h 328) (h 322)) (h 323)).2.1) 60) ((rf_sum (h 328) (rf_o3 (h 328) (h 322)) (h 323)).2.2)).2.1)) 323 ((rf_sum (h 328) (rf_oSig (h 328) ((rf_sum (h 328) (rf_o3 (h 328) (h 322)) (h 323)).2.1) 60) ((rf_sum (h 328) (rf_o3 (h 328) (h 322)) (h 323)).2.2)).2.2))) C dX12_readAtom_162 k12_234 v_X12_readSum rfl rfl bn_322 sh_322 ⟨by decide, rfl⟩ (by omega) (Nat.zero_le _) (Nat.zero_le _) (Nat.le_of_ble_eq_true rfl) (c_X12_readSum hR (show rf_cr (rf_oSig (h 328) ((rf_sum (h 328) (rf_o3 (h 328) (h 322)) (h 323)).2.1) 60) from cS)) ?_
            refine am_hp (show (am_row (am_row (am_row (am_row h 322 (rf_oSig (h 328) ((rf_sum (h 328) (rf_o3 (h 328) (h 322)) (h 323)).2.1) 60)) 323 ((rf_sum (h 328) (rf_o3 (h 328) (h 322)) (h 323)).2.2)) 322 ((rf_sum (h 328) (rf_oSig (h 328) ((rf_sum (h 328) (rf_o3 (h 328) (h 322)) (h 323)).2.1) 60) ((rf_sum (h 328) (rf_o3 (h 328) (h 322)) (h 323)).2.2)).2.1)) 323 ((rf_sum (h 328) (rf_oSig (h 328) ((rf_sum (h 328) (rf_o3 (h 328) (h 322)) (h 323)).2.1) 60) ((rf_sum (h 328) (rf_o3 (h 328) (h 322)) (h 323)).2.2)).2.2)) = (am_row (am_row (am_row h 322 ((rf_sum (h 328) (rf_oSig (h 328) ((rf_sum (h 328) (rf_o3 (h 328) (h 322)) (h 323)).2.1) 60) ((rf_sum (h 328) (rf_o3 (h 328) (h 322)) (h 323)).2.2)).2.1)) 323 ((rf_sum (h 328) (rf_o3 (h 328) (h 322)) (h 323)).2.2)) 323 ((rf_sum (h 328) (rf_oSig (h 328) ((rf_sum (h 328) (rf_o3 (h 328) (h 322)) (h 323)).2.1) 60) ((rf_sum (h 328) (rf_o3 (h 328) (h 322)) (h 323)).2.2)).2.2)) from by rw [show (am_row (am_row (am_row h 322 (rf_oSig (h 328) ((rf_sum (h 328) (rf_o3 (h 328) (h 322)) (h 323)).2.1) 60)) 323 ((rf_sum (h 328) (rf_o3 (h 328) (h 322)) (h 323)).2.2)) 322 ((rf_sum (h 328) (rf_oSig (h 328) ((rf_sum (h 328) (rf_o3 (h 328) (h 322)) (h 323)).2.1) 60) ((rf_sum (h 328) (rf_o3 (h 328) (h 322)) (h 323)).2.2)).2.1)) = (am_row (am_row h 322 ((rf_sum (h 328) (rf_oSig (h 328) ((rf_sum (h 328) (rf_o3 (h 328) (h 322)) (h 323)).2.1) 60) ((rf_sum (h 328) (rf_o3 (h 328) (h 322)) (h 323)).2.2)).2.1)) 323 ((rf_sum (h 328) (rf_o3 (h 328) (h 322)) (h 323)).2.2)) from am_row_s1 (by decide)]) ?_
            refine am_hp (show (am_row (am_row (am_row h 322 ((rf_sum (h 328) (rf_oSig (h 328) ((rf_sum (h 328) (rf_o3 (h 328) (h 322)) (h 323)).2.1) 60) ((rf_sum (h 328) (rf_o3 (h 328) (h 322)) (h 323)).2.2)).2.1)) 323 ((rf_sum (h 328) (rf_o3 (h 328) (h 322)) (h 323)).2.2)) 323 ((rf_sum (h 328) (rf_oSig (h 328) ((rf_sum (h 328) (rf_o3 (h 328) (h 322)) (h 323)).2.1) 60) ((rf_sum (h 328) (rf_o3 (h 328) (h 322)) (h 323)).2.2)).2.2)) = (am_row (am_row h 322 ((rf_sum (h 328) (rf_oSig (h 328) ((rf_sum (h 328) (rf_o3 (h 328) (h 322)) (h 323)).2.1) 60) ((rf_sum (h 328) (rf_o3 (h 328) (h 322)) (h 323)).2.2)).2.1)) 323 ((rf_sum (h 328) (rf_oSig (h 328) ((rf_sum (h 328) (rf_o3 (h 328) (h 322)) (h 323)).2.1) 60) ((rf_sum (h 328) (rf_o3 (h 328) (h 322)) (h 323)).2.2)).2.2)) from am_row_s0) ?_
            refine am_if_neB (pc := 165) (tgt := 170) C dX12_readAtom_165 (by decide) (fun q165 => ?_) (fun q165 => ?_)
            · skip
              have c9 := ((rf_Tq_sum (t := h 328) cS).2 q165).cr cS
              refine am_aload_n (pc := 170) C dX12_readAtom_170 rfl ?_
              refine am_iload_n (pc := 171) C dX12_readAtom_171 rfl ?_
              refine am_if_eqB (pc := 172) (tgt := 180) C dX12_readAtom_172 (by decide) (fun q172 => ?_) (fun q172 => ?_)
              · skip
                exact Bool.noConfusion (q149.symm.trans q172)
              · skip
                refine am_bipush (pc := 175) (v := nI 10) C dX12_readAtom_175 (by decide) ?_
                refine am_goto (pc := 177) (tgt := 182) C dX12_readAtom_177 (by decide) ?_
                refine am_iconstN (pc := 182) (k := 0) C dX12_readAtom_182 ?_
                refine am_callVv (Y := mX12_emits) (pc := 183) (st := []) (As := [.int (nI 10), .int (nI 0)]) (h2 := (am_row (am_row (am_row (am_row h 322 ((rf_sum (h 328) (rf_oSig (h 328) ((rf_sum (h 328) (rf_o3 (h 328) (h 322)) (h 323)).2.1) 60) ((rf_sum (h 328) (rf_o3 (h 328) (h 322)) (h 323)).2.2)).2.1)) 323 ((rf_sum (h 328) (rf_oSig (h 328) ((rf_sum (h 328) (rf_o3 (h 328) (h 322)) (h 323)).2.1) 60) ((rf_sum (h 328) (rf_o3 (h 328) (h 322)) (h 323)).2.2)).2.2)) 322 (rf_oEm ((rf_sum (h 328) (rf_oSig (h 328) ((rf_sum (h 328) (rf_o3 (h 328) (h 322)) (h 323)).2.1) 60) ((rf_sum (h 328) (rf_o3 (h 328) (h 322)) (h 323)).2.2)).2.1))) 323 (rf_wEm ((rf_sum (h 328) (rf_oSig (h 328) ((rf_sum (h 328) (rf_o3 (h 328) (h 322)) (h 323)).2.1) 60) ((rf_sum (h 328) (rf_o3 (h 328) (h 322)) (h 323)).2.2)).2.1) ((rf_sum (h 328) (rf_oSig (h 328) ((rf_sum (h 328) (rf_o3 (h 328) (h 322)) (h 323)).2.1) 60) ((rf_sum (h 328) (rf_o3 (h 328) (h 322)) (h 323)).2.2)).2.2) (nI 10) (nI 0)))) C dX12_readAtom_183 k12_200 v_X12_emits rfl rfl bn_322 sh_322 ⟨by decide, rfl⟩ (by omega) (Nat.zero_le _) (Nat.zero_le _) (Nat.le_of_ble_eq_true rfl) (c_X12_emits hR (nI 10) (nI 0) (show rf_n (((rf_sum (h 328) (rf_oSig (h 328) ((rf_sum (h 328) (rf_o3 (h 328) (h 322)) (h 323)).2.1) 60) ((rf_sum (h 328) (rf_o3 (h 328) (h 322)) (h 323)).2.2)).2.1) 16) 400 from c9.n)) ?_
                refine am_hp (show (am_row (am_row (am_row (am_row h 322 ((rf_sum (h 328) (rf_oSig (h 328) ((rf_sum (h 328) (rf_o3 (h 328) (h 322)) (h 323)).2.1) 60) ((rf_sum (h 328) (rf_o3 (h 328) (h 322)) (h 323)).2.2)).2.1)) 323 ((rf_sum (h 328) (rf_oSig (h 328) ((rf_sum (h 328) (rf_o3 (h 328) (h 322)) (h 323)).2.1) 60) ((rf_sum (h 328) (rf_o3 (h 328) (h 322)) (h 323)).2.2)).2.2)) 322 (rf_oEm ((rf_sum (h 328) (rf_oSig (h 328) ((rf_sum (h 328) (rf_o3 (h 328) (h 322)) (h 323)).2.1) 60) ((rf_sum (h 328) (rf_o3 (h 328) (h 322)) (h 323)).2.2)).2.1))) 323 (rf_wEm ((rf_sum (h 328) (rf_oSig (h 328) ((rf_sum (h 328) (rf_o3 (h 328) (h 322)) (h 323)).2.1) 60) ((rf_sum (h 328) (rf_o3 (h 328) (h 322)) (h 323)).2.2)).2.1) ((rf_sum (h 328) (rf_oSig (h 328) ((rf_sum (h 328) (rf_o3 (h 328) (h 322)) (h 323)).2.1) 60) ((rf_sum (h 328) (rf_o3 (h 328) (h 322)) (h 323)).2.2)).2.2) (nI 10) (nI 0))) = (am_row (am_row (am_row h 322 (rf_oEm ((rf_sum (h 328) (rf_oSig (h 328) ((rf_sum (h 328) (rf_o3 (h 328) (h 322)) (h 323)).2.1) 60) ((rf_sum (h 328) (rf_o3 (h 328) (h 322)) (h 323)).2.2)).2.1))) 323 ((rf_sum (h 328) (rf_oSig (h 328) ((rf_sum (h 328) (rf_o3 (h 328) (h 322)) (h 323)).2.1) 60) ((rf_sum (h 328) (rf_o3 (h 328) (h 322)) (h 323)).2.2)).2.2)) 323 (rf_wEm ((rf_sum (h 328) (rf_oSig (h 328) ((rf_sum (h 328) (rf_o3 (h 328) (h 322)) (h 323)).2.1) 60) ((rf_sum (h 328) (rf_o3 (h 328) (h 322)) (h 323)).2.2)).2.1) ((rf_sum (h 328) (rf_oSig (h 328) ((rf_sum (h 328) (rf_o3 (h 328) (h 322)) (h 323)).2.1) 60) ((rf_sum (h 328) (rf_o3 (h 328) (h 322)) (h 323)).2.2)).2.2) (nI 10) (nI 0))) from by rw [show (am_row (am_row (am_row h 322 ((rf_sum (h 328) (rf_oSig (h 328) ((rf_sum (h 328) (rf_o3 (h 328) (h 322)) (h 323)).2.1) 60) ((rf_sum (h 328) (rf_o3 (h 328) (h 322)) (h 323)).2.2)).2.1)) 323 ((rf_sum (h 328) (rf_oSig (h 328) ((rf_sum (h 328) (rf_o3 (h 328) (h 322)) (h 323)).2.1) 60) ((rf_sum (h 328) (rf_o3 (h 328) (h 322)) (h 323)).2.2)).2.2)) 322 (rf_oEm ((rf_sum (h 328) (rf_oSig (h 328) ((rf_sum (h 328) (rf_o3 (h 328) (h 322)) (h 323)).2.1) 60) ((rf_sum (h 328) (rf_o3 (h 328) (h 322)) (h 323)).2.2)).2.1))) = (am_row (am_row h 322 (rf_oEm ((rf_sum (h 328) (rf_oSig (h 328) ((rf_sum (h 328) (rf_o3 (h 328) (h 322)) (h 323)).2.1) 60) ((rf_sum (h 328) (rf_o3 (h 328) (h 322)) (h 323)).2.2)).2.1))) 323 ((rf_sum (h 328) (rf_oSig (h 328) ((rf_sum (h 328) (rf_o3 (h 328) (h 322)) (h 323)).2.1) 60) ((rf_sum (h 328) (rf_o3 (h 328) (h 322)) (h 323)).2.2)).2.2)) from am_row_s1 (by decide)]) ?_
                refine am_hp (show (am_row (am_row (am_row h 322 (rf_oEm ((rf_sum (h 328) (rf_oSig (h 328) ((rf_sum (h 328) (rf_o3 (h 328) (h 322)) (h 323)).2.1) 60) ((rf_sum (h 328) (rf_o3 (h 328) (h 322)) (h 323)).2.2)).2.1))) 323 ((rf_sum (h 328) (rf_oSig (h 328) ((rf_sum (h 328) (rf_o3 (h 328) (h 322)) (h 323)).2.1) 60) ((rf_sum (h 328) (rf_o3 (h 328) (h 322)) (h 323)).2.2)).2.2)) 323 (rf_wEm ((rf_sum (h 328) (rf_oSig (h 328) ((rf_sum (h 328) (rf_o3 (h 328) (h 322)) (h 323)).2.1) 60) ((rf_sum (h 328) (rf_o3 (h 328) (h 322)) (h 323)).2.2)).2.1) ((rf_sum (h 328) (rf_oSig (h 328) ((rf_sum (h 328) (rf_o3 (h 328) (h 322)) (h 323)).2.1) 60) ((rf_sum (h 328) (rf_o3 (h 328) (h 322)) (h 323)).2.2)).2.2) (nI 10) (nI 0))) = (am_row (am_row h 322 (rf_oEm ((rf_sum (h 328) (rf_oSig (h 328) ((rf_sum (h 328) (rf_o3 (h 328) (h 322)) (h 323)).2.1) 60) ((rf_sum (h 328) (rf_o3 (h 328) (h 322)) (h 323)).2.2)).2.1))) 323 (rf_wEm ((rf_sum (h 328) (rf_oSig (h 328) ((rf_sum (h 328) (rf_o3 (h 328) (h 322)) (h 323)).2.1) 60) ((rf_sum (h 328) (rf_o3 (h 328) (h 322)) (h 323)).2.2)).2.1) ((rf_sum (h 328) (rf_oSig (h 328) ((rf_sum (h 328) (rf_o3 (h 328) (h 322)) (h 323)).2.1) 60) ((rf_sum (h 328) (rf_o3 (h 328) (h 322)) (h 323)).2.2)).2.2) (nI 10) (nI 0))) from am_row_s0) ?_
                refine am_iconstN (pc := 186) (k := 1) C dX12_readAtom_186 ?_
                have E9 : rf_atm (h 328) dd (Cc (h 328)) (A (h 328)) (h 322) (h 323) = (true, rf_oEm ((rf_sum (h 328) (rf_oSig (h 328) ((rf_sum (h 328) (rf_o3 (h 328) (h 322)) (h 323)).2.1) 60) ((rf_sum (h 328) (rf_o3 (h 328) (h 322)) (h 323)).2.2)).2.1), rf_wEm ((rf_sum (h 328) (rf_oSig (h 328) ((rf_sum (h 328) (rf_o3 (h 328) (h 322)) (h 323)).2.1) 60) ((rf_sum (h 328) (rf_o3 (h 328) (h 322)) (h 323)).2.2)).2.1) ((rf_sum (h 328) (rf_oSig (h 328) ((rf_sum (h 328) (rf_o3 (h 328) (h 322)) (h 323)).2.1) 60) ((rf_sum (h 328) (rf_o3 (h 328) (h 322)) (h 323)).2.2)).2.2) (nI 10) (nI 0)) := (by rw [rf_atm_0 q6 q62 q120, rf_at0_t q136, rf_at1_l q149, rf_at2, q165]; rfl)
                exact am_iretb T dX12_readAtom_187 rfl (Nat.le_refl _) (Nat.le_refl _) (by rw [E9] <;> rfl) rfl (by rw [E9] <;> exact rfl)
            · skip
              refine am_iconstN (pc := 168) (k := 0) C dX12_readAtom_168 ?_
              have E9 : rf_atm (h 328) dd (Cc (h 328)) (A (h 328)) (h 322) (h 323) = (false, (rf_sum (h 328) (rf_oSig (h 328) ((rf_sum (h 328) (rf_o3 (h 328) (h 322)) (h 323)).2.1) 60) ((rf_sum (h 328) (rf_o3 (h 328) (h 322)) (h 323)).2.2)).2.1, (rf_sum (h 328) (rf_oSig (h 328) ((rf_sum (h 328) (rf_o3 (h 328) (h 322)) (h 323)).2.1) 60) ((rf_sum (h 328) (rf_o3 (h 328) (h 322)) (h 323)).2.2)).2.2) := (by rw [rf_atm_0 q6 q62 q120, rf_at0_t q136, rf_at1_l q149, rf_at2, q165]; rfl)
              exact am_iretb T dX12_readAtom_169 rfl (Nat.le_refl _) (Nat.le_refl _) (by rw [E9] <;> rfl) rfl (by rw [E9] <;> exact rfl)
          · skip
            have s62 := rf_Tm_sig (t := h 328) (c := 62) s60.1
            refine am_aload_n (pc := 152) C dX12_readAtom_152 rfl ?_
            refine am_bipush (pc := 153) (v := nI 62) C dX12_readAtom_153 (by decide) ?_
            refine am_callVi (Y := mX12_sign) (pc := 155) (st := []) (As := [.int (nI 62)]) (x := (am_b (rf_rSig (h 328) (rf_oSig (h 328) ((rf_sum (h 328) (rf_o3 (h 328) (h 322)) (h 323)).2.1) 60) 62))) (h2 := (am_row (am_row (am_row h 322 (rf_oSig (h 328) ((rf_sum (h 328) (rf_o3 (h 328) (h 322)) (h 323)).2.1) 60)) 323 ((rf_sum (h 328) (rf_o3 (h 328) (h 322)) (h 323)).2.2)) 322 (rf_oSig (h 328) (rf_oSig (h 328) ((rf_sum (h 328) (rf_o3 (h 328) (h 322)) (h 323)).2.1) 60) 62))) C dX12_readAtom_155 k12_217 v_X12_sign rfl rfl bn_322 sh_322 ⟨by decide, rfl⟩ (by omega) (Nat.zero_le _) (Nat.zero_le _) (Nat.le_of_ble_eq_true rfl) (c_X12_sign hR 62 (show rf_To (rf_oSig (h 328) ((rf_sum (h 328) (rf_o3 (h 328) (h 322)) (h 323)).2.1) 60) from s60.1)) ?_
            refine am_hp (show (am_row (am_row (am_row h 322 (rf_oSig (h 328) ((rf_sum (h 328) (rf_o3 (h 328) (h 322)) (h 323)).2.1) 60)) 323 ((rf_sum (h 328) (rf_o3 (h 328) (h 322)) (h 323)).2.2)) 322 (rf_oSig (h 328) (rf_oSig (h 328) ((rf_sum (h 328) (rf_o3 (h 328) (h 322)) (h 323)).2.1) 60) 62)) = (am_row (am_row h 322 (rf_oSig (h 328) (rf_oSig (h 328) ((rf_sum (h 328) (rf_o3 (h 328) (h 322)) (h 323)).2.1) 60) 62)) 323 ((rf_sum (h 328) (rf_o3 (h 328) (h 322)) (h 323)).2.2)) from am_row_s1 (by decide)) ?_
            refine am_if_eqB (pc := 158) (tgt := 168) C dX12_readAtom_158 (by decide) (fun q158 => ?_) (fun q158 => ?_)
            · skip
              refine am_iconstN (pc := 168) (k := 0) C dX12_readAtom_168 ?_
              have E9 : rf_atm (h 328) dd (Cc (h 328)) (A (h 328)) (h 322) (h 323) = (false, rf_oSig (h 328) (rf_oSig (h 328) ((rf_sum (h 328) (rf_o3 (h 328) (h 322)) (h 323)).2.1) 60) 62, (rf_sum (h 328) (rf_o3 (h 328) (h 322)) (h 323)).2.2) := (by rw [rf_atm_0 q6 q62 q120, rf_at0_t q136, rf_at1, q149, q158]; rfl)
              exact am_iretb T dX12_readAtom_169 rfl (Nat.le_refl _) (Nat.le_refl _) (by rw [E9] <;> rfl) rfl (by rw [E9] <;> exact rfl)
            · skip
              have cS := s62.cr (s60.cr cg)
              refine am_aload_n (pc := 161) C dX12_readAtom_161 rfl ?_
              refine am_callVi (Y := mX12_readSum) (pc := 162) (st := []) (As := []) (x := (am_b ((rf_sum (h 328) (rf_oSig (h 328) (rf_oSig (h 328) ((rf_sum (h 328) (rf_o3 (h 328) (h 322)) (h 323)).2.1) 60) 62) ((rf_sum (h 328) (rf_o3 (h 328) (h 322)) (h 323)).2.2)).1))) (h2 := (am_row (am_row (am_row (am_row h 322 (rf_oSig (h 328) (rf_oSig (h 328) ((rf_sum (h 328) (rf_o3 (h 328) (h 322)) (h 323)).2.1) 60) 62)) 323 ((rf_sum (h 328) (rf_o3 (h 328) (h 322)) (h 323)).2.2)) 322 ((rf_sum (h 328) (rf_oSig (h 328) (rf_oSig (h 328) ((rf_sum (h 328) (rf_o3 (h 328) (h 322)) (h 323)).2.1) 60) 62) ((rf_sum (h 328) (rf_o3 (h 328) (h 322)) (h 323)).2.2)).2.1)) 323 ((rf_sum (h 328) (rf_oSig (h 328) (rf_oSig (h 328) ((rf_sum (h 328) (rf_o3 (h 328) (h 322)) (h 323)).2.1) 60) 62) ((rf_sum (h 328) (rf_o3 (h 328) (h 322)) (h 323)).2.2)).2.2))) C dX12_readAtom_162 k12_234 v_X12_readSum rfl rfl bn_322 sh_322 ⟨by decide, rfl⟩ (by omega) (Nat.zero_le _) (Nat.zero_le _) (Nat.le_of_ble_eq_true rfl) (c_X12_readSum hR (show rf_cr (rf_oSig (h 328) (rf_oSig (h 328) ((rf_sum (h 328) (rf_o3 (h 328) (h 322)) (h 323)).2.1) 60) 62) from cS)) ?_
              refine am_hp (show (am_row (am_row (am_row (am_row h 322 (rf_oSig (h 328) (rf_oSig (h 328) ((rf_sum (h 328) (rf_o3 (h 328) (h 322)) (h 323)).2.1) 60) 62)) 323 ((rf_sum (h 328) (rf_o3 (h 328) (h 322)) (h 323)).2.2)) 322 ((rf_sum (h 328) (rf_oSig (h 328) (rf_oSig (h 328) ((rf_sum (h 328) (rf_o3 (h 328) (h 322)) (h 323)).2.1) 60) 62) ((rf_sum (h 328) (rf_o3 (h 328) (h 322)) (h 323)).2.2)).2.1)) 323 ((rf_sum (h 328) (rf_oSig (h 328) (rf_oSig (h 328) ((rf_sum (h 328) (rf_o3 (h 328) (h 322)) (h 323)).2.1) 60) 62) ((rf_sum (h 328) (rf_o3 (h 328) (h 322)) (h 323)).2.2)).2.2)) = (am_row (am_row (am_row h 322 ((rf_sum (h 328) (rf_oSig (h 328) (rf_oSig (h 328) ((rf_sum (h 328) (rf_o3 (h 328) (h 322)) (h 323)).2.1) 60) 62) ((rf_sum (h 328) (rf_o3 (h 328) (h 322)) (h 323)).2.2)).2.1)) 323 ((rf_sum (h 328) (rf_o3 (h 328) (h 322)) (h 323)).2.2)) 323 ((rf_sum (h 328) (rf_oSig (h 328) (rf_oSig (h 328) ((rf_sum (h 328) (rf_o3 (h 328) (h 322)) (h 323)).2.1) 60) 62) ((rf_sum (h 328) (rf_o3 (h 328) (h 322)) (h 323)).2.2)).2.2)) from by rw [show (am_row (am_row (am_row h 322 (rf_oSig (h 328) (rf_oSig (h 328) ((rf_sum (h 328) (rf_o3 (h 328) (h 322)) (h 323)).2.1) 60) 62)) 323 ((rf_sum (h 328) (rf_o3 (h 328) (h 322)) (h 323)).2.2)) 322 ((rf_sum (h 328) (rf_oSig (h 328) (rf_oSig (h 328) ((rf_sum (h 328) (rf_o3 (h 328) (h 322)) (h 323)).2.1) 60) 62) ((rf_sum (h 328) (rf_o3 (h 328) (h 322)) (h 323)).2.2)).2.1)) = (am_row (am_row h 322 ((rf_sum (h 328) (rf_oSig (h 328) (rf_oSig (h 328) ((rf_sum (h 328) (rf_o3 (h 328) (h 322)) (h 323)).2.1) 60) 62) ((rf_sum (h 328) (rf_o3 (h 328) (h 322)) (h 323)).2.2)).2.1)) 323 ((rf_sum (h 328) (rf_o3 (h 328) (h 322)) (h 323)).2.2)) from am_row_s1 (by decide)]) ?_
              refine am_hp (show (am_row (am_row (am_row h 322 ((rf_sum (h 328) (rf_oSig (h 328) (rf_oSig (h 328) ((rf_sum (h 328) (rf_o3 (h 328) (h 322)) (h 323)).2.1) 60) 62) ((rf_sum (h 328) (rf_o3 (h 328) (h 322)) (h 323)).2.2)).2.1)) 323 ((rf_sum (h 328) (rf_o3 (h 328) (h 322)) (h 323)).2.2)) 323 ((rf_sum (h 328) (rf_oSig (h 328) (rf_oSig (h 328) ((rf_sum (h 328) (rf_o3 (h 328) (h 322)) (h 323)).2.1) 60) 62) ((rf_sum (h 328) (rf_o3 (h 328) (h 322)) (h 323)).2.2)).2.2)) = (am_row (am_row h 322 ((rf_sum (h 328) (rf_oSig (h 328) (rf_oSig (h 328) ((rf_sum (h 328) (rf_o3 (h 328) (h 322)) (h 323)).2.1) 60) 62) ((rf_sum (h 328) (rf_o3 (h 328) (h 322)) (h 323)).2.2)).2.1)) 323 ((rf_sum (h 328) (rf_oSig (h 328) (rf_oSig (h 328) ((rf_sum (h 328) (rf_o3 (h 328) (h 322)) (h 323)).2.1) 60) 62) ((rf_sum (h 328) (rf_o3 (h 328) (h 322)) (h 323)).2.2)).2.2)) from am_row_s0) ?_
              refine am_if_neB (pc := 165) (tgt := 170) C dX12_readAtom_165 (by decide) (fun q165 => ?_) (fun q165 => ?_)
              · skip
                have c9 := ((rf_Tq_sum (t := h 328) cS).2 q165).cr cS
                refine am_aload_n (pc := 170) C dX12_readAtom_170 rfl ?_
                refine am_iload_n (pc := 171) C dX12_readAtom_171 rfl ?_
                refine am_if_eqB (pc := 172) (tgt := 180) C dX12_readAtom_172 (by decide) (fun q172 => ?_) (fun q172 => ?_)
                · skip
                  refine am_bipush (pc := 180) (v := nI 11) C dX12_readAtom_180 (by decide) ?_
                  refine am_iconstN (pc := 182) (k := 0) C dX12_readAtom_182 ?_
                  refine am_callVv (Y := mX12_emits) (pc := 183) (st := []) (As := [.int (nI 11), .int (nI 0)]) (h2 := (am_row (am_row (am_row (am_row h 322 ((rf_sum (h 328) (rf_oSig (h 328) (rf_oSig (h 328) ((rf_sum (h 328) (rf_o3 (h 328) (h 322)) (h 323)).2.1) 60) 62) ((rf_sum (h 328) (rf_o3 (h 328) (h 322)) (h 323)).2.2)).2.1)) 323 ((rf_sum (h 328) (rf_oSig (h 328) (rf_oSig (h 328) ((rf_sum (h 328) (rf_o3 (h 328) (h 322)) (h 323)).2.1) 60) 62) ((rf_sum (h 328) (rf_o3 (h 328) (h 322)) (h 323)).2.2)).2.2)) 322 (rf_oEm ((rf_sum (h 328) (rf_oSig (h 328) (rf_oSig (h 328) ((rf_sum (h 328) (rf_o3 (h 328) (h 322)) (h 323)).2.1) 60) 62) ((rf_sum (h 328) (rf_o3 (h 328) (h 322)) (h 323)).2.2)).2.1))) 323 (rf_wEm ((rf_sum (h 328) (rf_oSig (h 328) (rf_oSig (h 328) ((rf_sum (h 328) (rf_o3 (h 328) (h 322)) (h 323)).2.1) 60) 62) ((rf_sum (h 328) (rf_o3 (h 328) (h 322)) (h 323)).2.2)).2.1) ((rf_sum (h 328) (rf_oSig (h 328) (rf_oSig (h 328) ((rf_sum (h 328) (rf_o3 (h 328) (h 322)) (h 323)).2.1) 60) 62) ((rf_sum (h 328) (rf_o3 (h 328) (h 322)) (h 323)).2.2)).2.2) (nI 11) (nI 0)))) C dX12_readAtom_183 k12_200 v_X12_emits rfl rfl bn_322 sh_322 ⟨by decide, rfl⟩ (by omega) (Nat.zero_le _) (Nat.zero_le _) (Nat.le_of_ble_eq_true rfl) (c_X12_emits hR (nI 11) (nI 0) (show rf_n (((rf_sum (h 328) (rf_oSig (h 328) (rf_oSig (h 328) ((rf_sum (h 328) (rf_o3 (h 328) (h 322)) (h 323)).2.1) 60) 62) ((rf_sum (h 328) (rf_o3 (h 328) (h 322)) (h 323)).2.2)).2.1) 16) 400 from c9.n)) ?_
                  refine am_hp (show (am_row (am_row (am_row (am_row h 322 ((rf_sum (h 328) (rf_oSig (h 328) (rf_oSig (h 328) ((rf_sum (h 328) (rf_o3 (h 328) (h 322)) (h 323)).2.1) 60) 62) ((rf_sum (h 328) (rf_o3 (h 328) (h 322)) (h 323)).2.2)).2.1)) 323 ((rf_sum (h 328) (rf_oSig (h 328) (rf_oSig (h 328) ((rf_sum (h 328) (rf_o3 (h 328) (h 322)) (h 323)).2.1) 60) 62) ((rf_sum (h 328) (rf_o3 (h 328) (h 322)) (h 323)).2.2)).2.2)) 322 (rf_oEm ((rf_sum (h 328) (rf_oSig (h 328) (rf_oSig (h 328) ((rf_sum (h 328) (rf_o3 (h 328) (h 322)) (h 323)).2.1) 60) 62) ((rf_sum (h 328) (rf_o3 (h 328) (h 322)) (h 323)).2.2)).2.1))) 323 (rf_wEm ((rf_sum (h 328) (rf_oSig (h 328) (rf_oSig (h 328) ((rf_sum (h 328) (rf_o3 (h 328) (h 322)) (h 323)).2.1) 60) 62) ((rf_sum (h 328) (rf_o3 (h 328) (h 322)) (h 323)).2.2)).2.1) ((rf_sum (h 328) (rf_oSig (h 328) (rf_oSig (h 328) ((rf_sum (h 328) (rf_o3 (h 328) (h 322)) (h 323)).2.1) 60) 62) ((rf_sum (h 328) (rf_o3 (h 328) (h 322)) (h 323)).2.2)).2.2) (nI 11) (nI 0))) = (am_row (am_row (am_row h 322 (rf_oEm ((rf_sum (h 328) (rf_oSig (h 328) (rf_oSig (h 328) ((rf_sum (h 328) (rf_o3 (h 328) (h 322)) (h 323)).2.1) 60) 62) ((rf_sum (h 328) (rf_o3 (h 328) (h 322)) (h 323)).2.2)).2.1))) 323 ((rf_sum (h 328) (rf_oSig (h 328) (rf_oSig (h 328) ((rf_sum (h 328) (rf_o3 (h 328) (h 322)) (h 323)).2.1) 60) 62) ((rf_sum (h 328) (rf_o3 (h 328) (h 322)) (h 323)).2.2)).2.2)) 323 (rf_wEm ((rf_sum (h 328) (rf_oSig (h 328) (rf_oSig (h 328) ((rf_sum (h 328) (rf_o3 (h 328) (h 322)) (h 323)).2.1) 60) 62) ((rf_sum (h 328) (rf_o3 (h 328) (h 322)) (h 323)).2.2)).2.1) ((rf_sum (h 328) (rf_oSig (h 328) (rf_oSig (h 328) ((rf_sum (h 328) (rf_o3 (h 328) (h 322)) (h 323)).2.1) 60) 62) ((rf_sum (h 328) (rf_o3 (h 328) (h 322)) (h 323)).2.2)).2.2) (nI 11) (nI 0))) from by rw [show (am_row (am_row (am_row h 322 ((rf_sum (h 328) (rf_oSig (h 328) (rf_oSig (h 328) ((rf_sum (h 328) (rf_o3 (h 328) (h 322)) (h 323)).2.1) 60) 62) ((rf_sum (h 328) (rf_o3 (h 328) (h 322)) (h 323)).2.2)).2.1)) 323 ((rf_sum (h 328) (rf_oSig (h 328) (rf_oSig (h 328) ((rf_sum (h 328) (rf_o3 (h 328) (h 322)) (h 323)).2.1) 60) 62) ((rf_sum (h 328) (rf_o3 (h 328) (h 322)) (h 323)).2.2)).2.2)) 322 (rf_oEm ((rf_sum (h 328) (rf_oSig (h 328) (rf_oSig (h 328) ((rf_sum (h 328) (rf_o3 (h 328) (h 322)) (h 323)).2.1) 60) 62) ((rf_sum (h 328) (rf_o3 (h 328) (h 322)) (h 323)).2.2)).2.1))) = (am_row (am_row h 322 (rf_oEm ((rf_sum (h 328) (rf_oSig (h 328) (rf_oSig (h 328) ((rf_sum (h 328) (rf_o3 (h 328) (h 322)) (h 323)).2.1) 60) 62) ((rf_sum (h 328) (rf_o3 (h 328) (h 322)) (h 323)).2.2)).2.1))) 323 ((rf_sum (h 328) (rf_oSig (h 328) (rf_oSig (h 328) ((rf_sum (h 328) (rf_o3 (h 328) (h 322)) (h 323)).2.1) 60) 62) ((rf_sum (h 328) (rf_o3 (h 328) (h 322)) (h 323)).2.2)).2.2)) from am_row_s1 (by decide)]) ?_
                  refine am_hp (show (am_row (am_row (am_row h 322 (rf_oEm ((rf_sum (h 328) (rf_oSig (h 328) (rf_oSig (h 328) ((rf_sum (h 328) (rf_o3 (h 328) (h 322)) (h 323)).2.1) 60) 62) ((rf_sum (h 328) (rf_o3 (h 328) (h 322)) (h 323)).2.2)).2.1))) 323 ((rf_sum (h 328) (rf_oSig (h 328) (rf_oSig (h 328) ((rf_sum (h 328) (rf_o3 (h 328) (h 322)) (h 323)).2.1) 60) 62) ((rf_sum (h 328) (rf_o3 (h 328) (h 322)) (h 323)).2.2)).2.2)) 323 (rf_wEm ((rf_sum (h 328) (rf_oSig (h 328) (rf_oSig (h 328) ((rf_sum (h 328) (rf_o3 (h 328) (h 322)) (h 323)).2.1) 60) 62) ((rf_sum (h 328) (rf_o3 (h 328) (h 322)) (h 323)).2.2)).2.1) ((rf_sum (h 328) (rf_oSig (h 328) (rf_oSig (h 328) ((rf_sum (h 328) (rf_o3 (h 328) (h 322)) (h 323)).2.1) 60) 62) ((rf_sum (h 328) (rf_o3 (h 328) (h 322)) (h 323)).2.2)).2.2) (nI 11) (nI 0))) = (am_row (am_row h 322 (rf_oEm ((rf_sum (h 328) (rf_oSig (h 328) (rf_oSig (h 328) ((rf_sum (h 328) (rf_o3 (h 328) (h 322)) (h 323)).2.1) 60) 62) ((rf_sum (h 328) (rf_o3 (h 328) (h 322)) (h 323)).2.2)).2.1))) 323 (rf_wEm ((rf_sum (h 328) (rf_oSig (h 328) (rf_oSig (h 328) ((rf_sum (h 328) (rf_o3 (h 328) (h 322)) (h 323)).2.1) 60) 62) ((rf_sum (h 328) (rf_o3 (h 328) (h 322)) (h 323)).2.2)).2.1) ((rf_sum (h 328) (rf_oSig (h 328) (rf_oSig (h 328) ((rf_sum (h 328) (rf_o3 (h 328) (h 322)) (h 323)).2.1) 60) 62) ((rf_sum (h 328) (rf_o3 (h 328) (h 322)) (h 323)).2.2)).2.2) (nI 11) (nI 0))) from am_row_s0) ?_
                  refine am_iconstN (pc := 186) (k := 1) C dX12_readAtom_186 ?_
                  have E9 : rf_atm (h 328) dd (Cc (h 328)) (A (h 328)) (h 322) (h 323) = (true, rf_oEm ((rf_sum (h 328) (rf_oSig (h 328) (rf_oSig (h 328) ((rf_sum (h 328) (rf_o3 (h 328) (h 322)) (h 323)).2.1) 60) 62) ((rf_sum (h 328) (rf_o3 (h 328) (h 322)) (h 323)).2.2)).2.1), rf_wEm ((rf_sum (h 328) (rf_oSig (h 328) (rf_oSig (h 328) ((rf_sum (h 328) (rf_o3 (h 328) (h 322)) (h 323)).2.1) 60) 62) ((rf_sum (h 328) (rf_o3 (h 328) (h 322)) (h 323)).2.2)).2.1) ((rf_sum (h 328) (rf_oSig (h 328) (rf_oSig (h 328) ((rf_sum (h 328) (rf_o3 (h 328) (h 322)) (h 323)).2.1) 60) 62) ((rf_sum (h 328) (rf_o3 (h 328) (h 322)) (h 323)).2.2)).2.2) (nI 11) (nI 0)) := (by rw [rf_atm_0 q6 q62 q120, rf_at0_t q136, rf_at1_m q149 q158, rf_at2, q165]; rfl)
                  exact am_iretb T dX12_readAtom_187 rfl (Nat.le_refl _) (Nat.le_refl _) (by rw [E9] <;> rfl) rfl (by rw [E9] <;> exact rfl)
                · skip
                  exact Bool.noConfusion (q149.symm.trans q172)
              · skip
                refine am_iconstN (pc := 168) (k := 0) C dX12_readAtom_168 ?_
                have E9 : rf_atm (h 328) dd (Cc (h 328)) (A (h 328)) (h 322) (h 323) = (false, (rf_sum (h 328) (rf_oSig (h 328) (rf_oSig (h 328) ((rf_sum (h 328) (rf_o3 (h 328) (h 322)) (h 323)).2.1) 60) 62) ((rf_sum (h 328) (rf_o3 (h 328) (h 322)) (h 323)).2.2)).2.1, (rf_sum (h 328) (rf_oSig (h 328) (rf_oSig (h 328) ((rf_sum (h 328) (rf_o3 (h 328) (h 322)) (h 323)).2.1) 60) 62) ((rf_sum (h 328) (rf_o3 (h 328) (h 322)) (h 323)).2.2)).2.2) := (by rw [rf_atm_0 q6 q62 q120, rf_at0_t q136, rf_at1_m q149 q158, rf_at2, q165]; rfl)
                exact am_iretb T dX12_readAtom_169 rfl (Nat.le_refl _) (Nat.le_refl _) (by rw [E9] <;> rfl) rfl (by rw [E9] <;> exact rfl)
        · skip
          refine am_iconstN (pc := 139) (k := 0) C dX12_readAtom_139 ?_
          have E9 : rf_atm (h 328) dd (Cc (h 328)) (A (h 328)) (h 322) (h 323) = (false, (rf_sum (h 328) (rf_o3 (h 328) (h 322)) (h 323)).2.1, (rf_sum (h 328) (rf_o3 (h 328) (h 322)) (h 323)).2.2) := (by rw [rf_atm_0 q6 q62 q120, rf_at0, q136]; rfl)
          exact am_iretb T dX12_readAtom_140 rfl (Nat.le_refl _) (Nat.le_refl _) (by rw [E9] <;> rfl) rfl (by rw [E9] <;> exact rfl)
      · skip
        refine am_aload_n (pc := 123) C dX12_readAtom_123 rfl ?_
        refine am_bipush (pc := 124) (v := nI 7) C dX12_readAtom_124 (by decide) ?_
        refine am_iconstN (pc := 126) (k := 0) C dX12_readAtom_126 ?_
        refine am_callVv (Y := mX12_emits) (pc := 127) (st := []) (As := [.int (nI 7), .int (nI 0)]) (h2 := (am_row (am_row (am_row h 322 (rf_o3 (h 328) (h 322))) 322 (rf_oEm (rf_o3 (h 328) (h 322)))) 323 (rf_wEm (rf_o3 (h 328) (h 322)) (h 323) (nI 7) (nI 0)))) C dX12_readAtom_127 k12_200 v_X12_emits rfl rfl bn_322 sh_322 ⟨by decide, rfl⟩ (by omega) (Nat.zero_le _) (Nat.zero_le _) (Nat.le_of_ble_eq_true rfl) (c_X12_emits hR (nI 7) (nI 0) (show rf_n ((rf_o3 (h 328) (h 322)) 16) 400 from c3.n)) ?_
        refine am_hp (show (am_row (am_row (am_row h 322 (rf_o3 (h 328) (h 322))) 322 (rf_oEm (rf_o3 (h 328) (h 322)))) 323 (rf_wEm (rf_o3 (h 328) (h 322)) (h 323) (nI 7) (nI 0))) = (am_row (am_row h 322 (rf_oEm (rf_o3 (h 328) (h 322)))) 323 (rf_wEm (rf_o3 (h 328) (h 322)) (h 323) (nI 7) (nI 0))) from by rw [show (am_row (am_row h 322 (rf_o3 (h 328) (h 322))) 322 (rf_oEm (rf_o3 (h 328) (h 322)))) = (am_row h 322 (rf_oEm (rf_o3 (h 328) (h 322)))) from am_row_s0]) ?_
        refine am_iconstN (pc := 130) (k := 1) C dX12_readAtom_130 ?_
        have E9 : rf_atm (h 328) dd (Cc (h 328)) (A (h 328)) (h 322) (h 323) = (true, rf_oEm (rf_o3 (h 328) (h 322)), rf_wEm (rf_o3 (h 328) (h 322)) (h 323) (nI 7) (nI 0)) := (by rw [rf_atm_a q6 q62 q120])
        exact am_iretb T dX12_readAtom_131 rfl (Nat.le_refl _) (Nat.le_refl _) (by rw [E9] <;> rfl) rfl (by rw [E9] <;> exact rfl)
    · skip
      refine am_aload_n (pc := 65) C dX12_readAtom_65 rfl ?_
      refine am_getI (pc := 66) C dX12_readAtom_66 f12_221 bn_322 sh_322 ?_
      refine am_top (show ((rf_o2 (h 328) (h 322)) 13) = (nI dd) from (((h1.tr h2).2.2.1 13 (by decide) (by decide)).trans h13)) ?_
      refine am_bipush (pc := 69) (v := nI 6) C dX12_readAtom_69 (by decide) ?_
      refine am_icmp_neN (pc := 71) (tgt := 76) C dX12_readAtom_71 (by decide) (by omega) (by omega) (fun q71 => ?_) (fun q71 => ?_)
      · skip
        have u := rf_Tc_dp (d := dd + 1) c2 h2.2.2.2
        have cu := u.cr c2
        refine am_aload_n (pc := 76) C dX12_readAtom_76 rfl ?_
        refine am_dup (pc := 77) C dX12_readAtom_77 rfl ?_
        refine am_getI (pc := 78) C dX12_readAtom_78 f12_221 bn_322 sh_322 ?_
        refine am_top (show ((rf_o2 (h 328) (h 322)) 13) = (nI dd) from (((h1.tr h2).2.2.1 13 (by decide) (by decide)).trans h13)) ?_
        refine am_iconstN (pc := 81) (k := 1) C dX12_readAtom_81 ?_
        refine am_iaddN (pc := 82) C dX12_readAtom_82 ?_
        refine am_putI (pc := 83) C dX12_readAtom_83 f12_221 bn_322 sh_322 rfl rfl ?_
        refine am_hp (show am_up (am_row h 322 (rf_o2 (h 328) (h 322))) 322 13 (nI (dd + 1)) = am_row (am_row h 322 (rf_o2 (h 328) (h 322))) 322 (upd (rf_o2 (h 328) (h 322)) 13 (nI (dd + 1))) from am_up_rw _ _ _ _) ?_
        refine am_hp (show am_row (am_row h 322 (rf_o2 (h 328) (h 322))) 322 (upd (rf_o2 (h 328) (h 322)) 13 (nI (dd + 1))) = (am_row h 322 (upd (rf_o2 (h 328) (h 322)) 13 (nI (dd + 1)))) from am_row_s0) ?_
        refine am_hp (show (am_row h 322 (upd (rf_o2 (h 328) (h 322)) 13 (nI (dd + 1)))) = (am_row h 322 (rf_dp (rf_o2 (h 328) (h 322)) (dd + 1))) from rfl) ?_
        refine am_aload_n (pc := 86) C dX12_readAtom_86 rfl ?_
        refine am_callVi (Y := mX12_readAtom) (pc := 87) (st := []) (As := []) (x := (am_b ((A (h 328) (rf_dp (rf_o2 (h 328) (h 322)) (dd + 1)) (h 323)).1))) (h2 := (am_row (am_row (am_row h 322 (rf_dp (rf_o2 (h 328) (h 322)) (dd + 1))) 322 ((A (h 328) (rf_dp (rf_o2 (h 328) (h 322)) (dd + 1)) (h 323)).2.1)) 323 ((A (h 328) (rf_dp (rf_o2 (h 328) (h 322)) (dd + 1)) (h 323)).2.2))) C dX12_readAtom_87 k12_229 v_X12_readAtom rfl rfl bn_322 sh_322 ⟨by decide, rfl⟩ (by omega) (Nat.zero_le _) (Nat.zero_le _) (Nat.le_of_ble_eq_true rfl) (hPA q71 _ _ hR _ cu (rf_dp_13 (o := rf_o2 (h 328) (h 322)))) ?_
        refine am_hp (show (am_row (am_row (am_row h 322 (rf_dp (rf_o2 (h 328) (h 322)) (dd + 1))) 322 ((A (h 328) (rf_dp (rf_o2 (h 328) (h 322)) (dd + 1)) (h 323)).2.1)) 323 ((A (h 328) (rf_dp (rf_o2 (h 328) (h 322)) (dd + 1)) (h 323)).2.2)) = (am_row (am_row h 322 ((A (h 328) (rf_dp (rf_o2 (h 328) (h 322)) (dd + 1)) (h 323)).2.1)) 323 ((A (h 328) (rf_dp (rf_o2 (h 328) (h 322)) (dd + 1)) (h 323)).2.2)) from by rw [show (am_row (am_row h 322 (rf_dp (rf_o2 (h 328) (h 322)) (dd + 1))) 322 ((A (h 328) (rf_dp (rf_o2 (h 328) (h 322)) (dd + 1)) (h 323)).2.1)) = (am_row h 322 ((A (h 328) (rf_dp (rf_o2 (h 328) (h 322)) (dd + 1)) (h 323)).2.1)) from am_row_s0]) ?_
        refine am_if_neB (pc := 90) (tgt := 95) C dX12_readAtom_90 (by decide) (fun q90 => ?_) (fun q90 => ?_)
        · skip
          have g := (hgA (h 328) q71 (rf_dp (rf_o2 (h 328) (h 322)) (dd + 1)) (h 323) cu rf_dp_13).2 q90
          have cq := g.cr cu
          have v := rf_Tc_dp (d := dd) cq g.1.2.2.2.1
          have cv := v.cr cq
          refine am_aload_n (pc := 95) C dX12_readAtom_95 rfl ?_
          refine am_dup (pc := 96) C dX12_readAtom_96 rfl ?_
          refine am_getI (pc := 97) C dX12_readAtom_97 f12_221 bn_322 sh_322 ?_
          refine am_top (show (((A (h 328) (rf_dp (rf_o2 (h 328) (h 322)) (dd + 1)) (h 323)).2.1) 13) = (nI (dd + 1)) from (g.2.2.trans rf_dp_13)) ?_
          refine am_iconstN (pc := 100) (k := 1) C dX12_readAtom_100 ?_
          refine am_isubN (pc := 101) C dX12_readAtom_101 (by omega) ?_
          refine am_putI (pc := 102) C dX12_readAtom_102 f12_221 bn_322 sh_322 rfl rfl ?_
          refine am_hp (show am_up (am_row (am_row h 322 ((A (h 328) (rf_dp (rf_o2 (h 328) (h 322)) (dd + 1)) (h 323)).2.1)) 323 ((A (h 328) (rf_dp (rf_o2 (h 328) (h 322)) (dd + 1)) (h 323)).2.2)) 322 13 (nI ((dd + 1) - 1)) = am_row (am_row (am_row h 322 ((A (h 328) (rf_dp (rf_o2 (h 328) (h 322)) (dd + 1)) (h 323)).2.1)) 323 ((A (h 328) (rf_dp (rf_o2 (h 328) (h 322)) (dd + 1)) (h 323)).2.2)) 322 (upd ((A (h 328) (rf_dp (rf_o2 (h 328) (h 322)) (dd + 1)) (h 323)).2.1) 13 (nI ((dd + 1) - 1))) from am_up_rw _ _ _ _) ?_
          refine am_hp (show am_row (am_row (am_row h 322 ((A (h 328) (rf_dp (rf_o2 (h 328) (h 322)) (dd + 1)) (h 323)).2.1)) 323 ((A (h 328) (rf_dp (rf_o2 (h 328) (h 322)) (dd + 1)) (h 323)).2.2)) 322 (upd ((A (h 328) (rf_dp (rf_o2 (h 328) (h 322)) (dd + 1)) (h 323)).2.1) 13 (nI ((dd + 1) - 1))) = (am_row (am_row h 322 (upd ((A (h 328) (rf_dp (rf_o2 (h 328) (h 322)) (dd + 1)) (h 323)).2.1) 13 (nI ((dd + 1) - 1)))) 323 ((A (h 328) (rf_dp (rf_o2 (h 328) (h 322)) (dd + 1)) (h 323)).2.2)) from am_row_s1 (by decide)) ?_
          refine am_hp (show (am_row (am_row h 322 (upd ((A (h 328) (rf_dp (rf_o2 (h 328) (h 322)) (dd + 1)) (h 323)).2.1) 13 (nI ((dd + 1) - 1)))) 323 ((A (h 328) (rf_dp (rf_o2 (h 328) (h 322)) (dd + 1)) (h 323)).2.2)) = (am_row (am_row h 322 (rf_dp (A (h 328) (rf_dp (rf_o2 (h 328) (h 322)) (dd + 1)) (h 323)).2.1 dd)) 323 ((A (h 328) (rf_dp (rf_o2 (h 328) (h 322)) (dd + 1)) (h 323)).2.2)) from rfl) ?_
          refine am_aload_n (pc := 105) C dX12_readAtom_105 rfl ?_
          refine am_bipush (pc := 106) (v := nI 12) C dX12_readAtom_106 (by decide) ?_
          refine am_iconstN (pc := 108) (k := 0) C dX12_readAtom_108 ?_
          refine am_callVv (Y := mX12_emits) (pc := 109) (st := []) (As := [.int (nI 12), .int (nI 0)]) (h2 := (am_row (am_row (am_row (am_row h 322 (rf_dp (A (h 328) (rf_dp (rf_o2 (h 328) (h 322)) (dd + 1)) (h 323)).2.1 dd)) 323 ((A (h 328) (rf_dp (rf_o2 (h 328) (h 322)) (dd + 1)) (h 323)).2.2)) 322 (rf_oEm (rf_dp (A (h 328) (rf_dp (rf_o2 (h 328) (h 322)) (dd + 1)) (h 323)).2.1 dd))) 323 (rf_wEm (rf_dp (A (h 328) (rf_dp (rf_o2 (h 328) (h 322)) (dd + 1)) (h 323)).2.1 dd) ((A (h 328) (rf_dp (rf_o2 (h 328) (h 322)) (dd + 1)) (h 323)).2.2) (nI 12) (nI 0)))) C dX12_readAtom_109 k12_200 v_X12_emits rfl rfl bn_322 sh_322 ⟨by decide, rfl⟩ (by omega) (Nat.zero_le _) (Nat.zero_le _) (Nat.le_of_ble_eq_true rfl) (c_X12_emits hR (nI 12) (nI 0) (show rf_n ((rf_dp (A (h 328) (rf_dp (rf_o2 (h 328) (h 322)) (dd + 1)) (h 323)).2.1 dd) 16) 400 from cv.n)) ?_
          refine am_hp (show (am_row (am_row (am_row (am_row h 322 (rf_dp (A (h 328) (rf_dp (rf_o2 (h 328) (h 322)) (dd + 1)) (h 323)).2.1 dd)) 323 ((A (h 328) (rf_dp (rf_o2 (h 328) (h 322)) (dd + 1)) (h 323)).2.2)) 322 (rf_oEm (rf_dp (A (h 328) (rf_dp (rf_o2 (h 328) (h 322)) (dd + 1)) (h 323)).2.1 dd))) 323 (rf_wEm (rf_dp (A (h 328) (rf_dp (rf_o2 (h 328) (h 322)) (dd + 1)) (h 323)).2.1 dd) ((A (h 328) (rf_dp (rf_o2 (h 328) (h 322)) (dd + 1)) (h 323)).2.2) (nI 12) (nI 0))) = (am_row (am_row (am_row h 322 (rf_oEm (rf_dp (A (h 328) (rf_dp (rf_o2 (h 328) (h 322)) (dd + 1)) (h 323)).2.1 dd))) 323 ((A (h 328) (rf_dp (rf_o2 (h 328) (h 322)) (dd + 1)) (h 323)).2.2)) 323 (rf_wEm (rf_dp (A (h 328) (rf_dp (rf_o2 (h 328) (h 322)) (dd + 1)) (h 323)).2.1 dd) ((A (h 328) (rf_dp (rf_o2 (h 328) (h 322)) (dd + 1)) (h 323)).2.2) (nI 12) (nI 0))) from by rw [show (am_row (am_row (am_row h 322 (rf_dp (A (h 328) (rf_dp (rf_o2 (h 328) (h 322)) (dd + 1)) (h 323)).2.1 dd)) 323 ((A (h 328) (rf_dp (rf_o2 (h 328) (h 322)) (dd + 1)) (h 323)).2.2)) 322 (rf_oEm (rf_dp (A (h 328) (rf_dp (rf_o2 (h 328) (h 322)) (dd + 1)) (h 323)).2.1 dd))) = (am_row (am_row h 322 (rf_oEm (rf_dp (A (h 328) (rf_dp (rf_o2 (h 328) (h 322)) (dd + 1)) (h 323)).2.1 dd))) 323 ((A (h 328) (rf_dp (rf_o2 (h 328) (h 322)) (dd + 1)) (h 323)).2.2)) from am_row_s1 (by decide)]) ?_
          refine am_hp (show (am_row (am_row (am_row h 322 (rf_oEm (rf_dp (A (h 328) (rf_dp (rf_o2 (h 328) (h 322)) (dd + 1)) (h 323)).2.1 dd))) 323 ((A (h 328) (rf_dp (rf_o2 (h 328) (h 322)) (dd + 1)) (h 323)).2.2)) 323 (rf_wEm (rf_dp (A (h 328) (rf_dp (rf_o2 (h 328) (h 322)) (dd + 1)) (h 323)).2.1 dd) ((A (h 328) (rf_dp (rf_o2 (h 328) (h 322)) (dd + 1)) (h 323)).2.2) (nI 12) (nI 0))) = (am_row (am_row h 322 (rf_oEm (rf_dp (A (h 328) (rf_dp (rf_o2 (h 328) (h 322)) (dd + 1)) (h 323)).2.1 dd))) 323 (rf_wEm (rf_dp (A (h 328) (rf_dp (rf_o2 (h 328) (h 322)) (dd + 1)) (h 323)).2.1 dd) ((A (h 328) (rf_dp (rf_o2 (h 328) (h 322)) (dd + 1)) (h 323)).2.2) (nI 12) (nI 0))) from am_row_s0) ?_
          refine am_iconstN (pc := 112) (k := 1) C dX12_readAtom_112 ?_
          have E9 : rf_atm (h 328) dd (Cc (h 328)) (A (h 328)) (h 322) (h 323) = (true, rf_oEm (rf_dp (A (h 328) (rf_dp (rf_o2 (h 328) (h 322)) (dd + 1)) (h 323)).2.1 dd), rf_wEm (rf_dp (A (h 328) (rf_dp (rf_o2 (h 328) (h 322)) (dd + 1)) (h 323)).2.1 dd) ((A (h 328) (rf_dp (rf_o2 (h 328) (h 322)) (dd + 1)) (h 323)).2.2) (nI 12) (nI 0)) := (by rw [rf_atm_n q6 q62, rf_atN, if_neg q71]; show (bif _ then _ else _) = _; rw [q90]; rfl)
          exact am_iretb T dX12_readAtom_113 rfl (Nat.le_refl _) (Nat.le_refl _) (by rw [E9] <;> rfl) rfl (by rw [E9] <;> exact rfl)
        · skip
          refine am_iconstN (pc := 93) (k := 0) C dX12_readAtom_93 ?_
          have E9 : rf_atm (h 328) dd (Cc (h 328)) (A (h 328)) (h 322) (h 323) = (false, (A (h 328) (rf_dp (rf_o2 (h 328) (h 322)) (dd + 1)) (h 323)).2.1, (A (h 328) (rf_dp (rf_o2 (h 328) (h 322)) (dd + 1)) (h 323)).2.2) := (by rw [rf_atm_n q6 q62, rf_atN, if_neg q71]; show (bif _ then _ else _) = _; rw [q90]; rfl)
          exact am_iretb T dX12_readAtom_94 rfl (Nat.le_refl _) (Nat.le_refl _) (by rw [E9] <;> rfl) rfl (by rw [E9] <;> exact rfl)
      · skip
        refine am_iconstN (pc := 74) (k := 0) C dX12_readAtom_74 ?_
        have E9 : rf_atm (h 328) dd (Cc (h 328)) (A (h 328)) (h 322) (h 323) = (false, rf_o2 (h 328) (h 322), h 323) := (by rw [rf_atm_n q6 q62, rf_atN, if_pos q71])
        exact am_iretb T dX12_readAtom_75 rfl (Nat.le_refl _) (Nat.le_refl _) (by rw [E9] <;> rfl) rfl (by rw [E9] <;> exact (show (am_row h 322 (rf_o2 (h 328) (h 322))) = (am_row (am_row h 322 (rf_o2 (h 328) (h 322))) 323 (h 323)) from (am_hA (f := h) (i := 322) (j := 323) (by decide)).symm))
  · skip
    refine am_aload_n (pc := 9) C dX12_readAtom_9 rfl ?_
    refine am_getI (pc := 10) C dX12_readAtom_10 f12_221 bn_322 sh_322 ?_
    refine am_top (show ((rf_oSig (h 328) (h 322) 40) 13) = (nI dd) from ((h1.2.2.1 13 (by decide) (by decide)).trans h13)) ?_
    refine am_bipush (pc := 13) (v := nI 6) C dX12_readAtom_13 (by decide) ?_
    refine am_icmp_neN (pc := 15) (tgt := 20) C dX12_readAtom_15 (by decide) (by omega) (by omega) (fun q15 => ?_) (fun q15 => ?_)
    · skip
      have u := rf_Tc_dp (d := dd + 1) c1 h1.2.2.2
      have cu := u.cr c1
      refine am_aload_n (pc := 20) C dX12_readAtom_20 rfl ?_
      refine am_dup (pc := 21) C dX12_readAtom_21 rfl ?_
      refine am_getI (pc := 22) C dX12_readAtom_22 f12_221 bn_322 sh_322 ?_
      refine am_top (show ((rf_oSig (h 328) (h 322) 40) 13) = (nI dd) from ((h1.2.2.1 13 (by decide) (by decide)).trans h13)) ?_
      refine am_iconstN (pc := 25) (k := 1) C dX12_readAtom_25 ?_
      refine am_iaddN (pc := 26) C dX12_readAtom_26 ?_
      refine am_putI (pc := 27) C dX12_readAtom_27 f12_221 bn_322 sh_322 rfl rfl ?_
      refine am_hp (show am_up (am_row h 322 (rf_oSig (h 328) (h 322) 40)) 322 13 (nI (dd + 1)) = am_row (am_row h 322 (rf_oSig (h 328) (h 322) 40)) 322 (upd (rf_oSig (h 328) (h 322) 40) 13 (nI (dd + 1))) from am_up_rw _ _ _ _) ?_
      refine am_hp (show am_row (am_row h 322 (rf_oSig (h 328) (h 322) 40)) 322 (upd (rf_oSig (h 328) (h 322) 40) 13 (nI (dd + 1))) = (am_row h 322 (upd (rf_oSig (h 328) (h 322) 40) 13 (nI (dd + 1)))) from am_row_s0) ?_
      refine am_hp (show (am_row h 322 (upd (rf_oSig (h 328) (h 322) 40) 13 (nI (dd + 1)))) = (am_row h 322 (rf_dp (rf_oSig (h 328) (h 322) 40) (dd + 1))) from rfl) ?_
      refine am_aload_n (pc := 30) C dX12_readAtom_30 rfl ?_
      refine am_callVi (Y := mX12_readCond) (pc := 31) (st := []) (As := []) (x := (am_b ((Cc (h 328) (rf_dp (rf_oSig (h 328) (h 322) 40) (dd + 1)) (h 323)).1))) (h2 := (am_row (am_row (am_row h 322 (rf_dp (rf_oSig (h 328) (h 322) 40) (dd + 1))) 322 ((Cc (h 328) (rf_dp (rf_oSig (h 328) (h 322) 40) (dd + 1)) (h 323)).2.1)) 323 ((Cc (h 328) (rf_dp (rf_oSig (h 328) (h 322) 40) (dd + 1)) (h 323)).2.2))) C dX12_readAtom_31 k12_224 v_X12_readCond rfl rfl bn_322 sh_322 ⟨by decide, rfl⟩ (by omega) (Nat.zero_le _) (Nat.zero_le _) (Nat.le_of_ble_eq_true rfl) (hPC q15 _ _ hR _ cu (rf_dp_13 (o := rf_oSig (h 328) (h 322) 40))) ?_
      refine am_hp (show (am_row (am_row (am_row h 322 (rf_dp (rf_oSig (h 328) (h 322) 40) (dd + 1))) 322 ((Cc (h 328) (rf_dp (rf_oSig (h 328) (h 322) 40) (dd + 1)) (h 323)).2.1)) 323 ((Cc (h 328) (rf_dp (rf_oSig (h 328) (h 322) 40) (dd + 1)) (h 323)).2.2)) = (am_row (am_row h 322 ((Cc (h 328) (rf_dp (rf_oSig (h 328) (h 322) 40) (dd + 1)) (h 323)).2.1)) 323 ((Cc (h 328) (rf_dp (rf_oSig (h 328) (h 322) 40) (dd + 1)) (h 323)).2.2)) from by rw [show (am_row (am_row h 322 (rf_dp (rf_oSig (h 328) (h 322) 40) (dd + 1))) 322 ((Cc (h 328) (rf_dp (rf_oSig (h 328) (h 322) 40) (dd + 1)) (h 323)).2.1)) = (am_row h 322 ((Cc (h 328) (rf_dp (rf_oSig (h 328) (h 322) 40) (dd + 1)) (h 323)).2.1)) from am_row_s0]) ?_
      refine am_if_neB (pc := 34) (tgt := 39) C dX12_readAtom_34 (by decide) (fun q34 => ?_) (fun q34 => ?_)
      · skip
        have g := (hgC (h 328) q15 (rf_dp (rf_oSig (h 328) (h 322) 40) (dd + 1)) (h 323) cu rf_dp_13).2 q34
        have cq := g.cr cu
        have v := rf_Tc_dp (d := dd) cq g.1.2.2.2.1
        have cv := v.cr cq
        refine am_aload_n (pc := 39) C dX12_readAtom_39 rfl ?_
        refine am_dup (pc := 40) C dX12_readAtom_40 rfl ?_
        refine am_getI (pc := 41) C dX12_readAtom_41 f12_221 bn_322 sh_322 ?_
        refine am_top (show (((Cc (h 328) (rf_dp (rf_oSig (h 328) (h 322) 40) (dd + 1)) (h 323)).2.1) 13) = (nI (dd + 1)) from (g.2.2.trans rf_dp_13)) ?_
        refine am_iconstN (pc := 44) (k := 1) C dX12_readAtom_44 ?_
        refine am_isubN (pc := 45) C dX12_readAtom_45 (by omega) ?_
        refine am_putI (pc := 46) C dX12_readAtom_46 f12_221 bn_322 sh_322 rfl rfl ?_
        refine am_hp (show am_up (am_row (am_row h 322 ((Cc (h 328) (rf_dp (rf_oSig (h 328) (h 322) 40) (dd + 1)) (h 323)).2.1)) 323 ((Cc (h 328) (rf_dp (rf_oSig (h 328) (h 322) 40) (dd + 1)) (h 323)).2.2)) 322 13 (nI ((dd + 1) - 1)) = am_row (am_row (am_row h 322 ((Cc (h 328) (rf_dp (rf_oSig (h 328) (h 322) 40) (dd + 1)) (h 323)).2.1)) 323 ((Cc (h 328) (rf_dp (rf_oSig (h 328) (h 322) 40) (dd + 1)) (h 323)).2.2)) 322 (upd ((Cc (h 328) (rf_dp (rf_oSig (h 328) (h 322) 40) (dd + 1)) (h 323)).2.1) 13 (nI ((dd + 1) - 1))) from am_up_rw _ _ _ _) ?_
        refine am_hp (show am_row (am_row (am_row h 322 ((Cc (h 328) (rf_dp (rf_oSig (h 328) (h 322) 40) (dd + 1)) (h 323)).2.1)) 323 ((Cc (h 328) (rf_dp (rf_oSig (h 328) (h 322) 40) (dd + 1)) (h 323)).2.2)) 322 (upd ((Cc (h 328) (rf_dp (rf_oSig (h 328) (h 322) 40) (dd + 1)) (h 323)).2.1) 13 (nI ((dd + 1) - 1))) = (am_row (am_row h 322 (upd ((Cc (h 328) (rf_dp (rf_oSig (h 328) (h 322) 40) (dd + 1)) (h 323)).2.1) 13 (nI ((dd + 1) - 1)))) 323 ((Cc (h 328) (rf_dp (rf_oSig (h 328) (h 322) 40) (dd + 1)) (h 323)).2.2)) from am_row_s1 (by decide)) ?_
        refine am_hp (show (am_row (am_row h 322 (upd ((Cc (h 328) (rf_dp (rf_oSig (h 328) (h 322) 40) (dd + 1)) (h 323)).2.1) 13 (nI ((dd + 1) - 1)))) 323 ((Cc (h 328) (rf_dp (rf_oSig (h 328) (h 322) 40) (dd + 1)) (h 323)).2.2)) = (am_row (am_row h 322 (rf_dp (Cc (h 328) (rf_dp (rf_oSig (h 328) (h 322) 40) (dd + 1)) (h 323)).2.1 dd)) 323 ((Cc (h 328) (rf_dp (rf_oSig (h 328) (h 322) 40) (dd + 1)) (h 323)).2.2)) from rfl) ?_
        refine am_aload_n (pc := 49) C dX12_readAtom_49 rfl ?_
        refine am_bipush (pc := 50) (v := nI 41) C dX12_readAtom_50 (by decide) ?_
        refine am_callVi (Y := mX12_sign) (pc := 52) (st := []) (As := [.int (nI 41)]) (x := (am_b (rf_rSig (h 328) (rf_dp (Cc (h 328) (rf_dp (rf_oSig (h 328) (h 322) 40) (dd + 1)) (h 323)).2.1 dd) 41))) (h2 := (am_row (am_row (am_row h 322 (rf_dp (Cc (h 328) (rf_dp (rf_oSig (h 328) (h 322) 40) (dd + 1)) (h 323)).2.1 dd)) 323 ((Cc (h 328) (rf_dp (rf_oSig (h 328) (h 322) 40) (dd + 1)) (h 323)).2.2)) 322 (rf_oSig (h 328) (rf_dp (Cc (h 328) (rf_dp (rf_oSig (h 328) (h 322) 40) (dd + 1)) (h 323)).2.1 dd) 41))) C dX12_readAtom_52 k12_217 v_X12_sign rfl rfl bn_322 sh_322 ⟨by decide, rfl⟩ (by omega) (Nat.zero_le _) (Nat.zero_le _) (Nat.le_of_ble_eq_true rfl) (c_X12_sign hR 41 (show rf_To (rf_dp (Cc (h 328) (rf_dp (rf_oSig (h 328) (h 322) 40) (dd + 1)) (h 323)).2.1 dd) from cv.1)) ?_
        refine am_hp (show (am_row (am_row (am_row h 322 (rf_dp (Cc (h 328) (rf_dp (rf_oSig (h 328) (h 322) 40) (dd + 1)) (h 323)).2.1 dd)) 323 ((Cc (h 328) (rf_dp (rf_oSig (h 328) (h 322) 40) (dd + 1)) (h 323)).2.2)) 322 (rf_oSig (h 328) (rf_dp (Cc (h 328) (rf_dp (rf_oSig (h 328) (h 322) 40) (dd + 1)) (h 323)).2.1 dd) 41)) = (am_row (am_row h 322 (rf_oSig (h 328) (rf_dp (Cc (h 328) (rf_dp (rf_oSig (h 328) (h 322) 40) (dd + 1)) (h 323)).2.1 dd) 41)) 323 ((Cc (h 328) (rf_dp (rf_oSig (h 328) (h 322) 40) (dd + 1)) (h 323)).2.2)) from am_row_s1 (by decide)) ?_
        have E9 : rf_atm (h 328) dd (Cc (h 328)) (A (h 328)) (h 322) (h 323) = (rf_rSig (h 328) (rf_dp (Cc (h 328) (rf_dp (rf_oSig (h 328) (h 322) 40) (dd + 1)) (h 323)).2.1 dd) 41, rf_oSig (h 328) (rf_dp (Cc (h 328) (rf_dp (rf_oSig (h 328) (h 322) 40) (dd + 1)) (h 323)).2.1 dd) 41, (Cc (h 328) (rf_dp (rf_oSig (h 328) (h 322) 40) (dd + 1)) (h 323)).2.2) := (by rw [rf_atm_p q6, rf_atP, if_neg q15]; show (bif _ then _ else _) = _; rw [q34]; rfl)
        exact am_iretb T dX12_readAtom_55 rfl (Nat.le_refl _) (Nat.le_refl _) (by rw [E9] <;> rfl) rfl (by rw [E9] <;> exact rfl)
      · skip
        refine am_iconstN (pc := 37) (k := 0) C dX12_readAtom_37 ?_
        have E9 : rf_atm (h 328) dd (Cc (h 328)) (A (h 328)) (h 322) (h 323) = (false, (Cc (h 328) (rf_dp (rf_oSig (h 328) (h 322) 40) (dd + 1)) (h 323)).2.1, (Cc (h 328) (rf_dp (rf_oSig (h 328) (h 322) 40) (dd + 1)) (h 323)).2.2) := (by rw [rf_atm_p q6, rf_atP, if_neg q15]; show (bif _ then _ else _) = _; rw [q34]; rfl)
        exact am_iretb T dX12_readAtom_38 rfl (Nat.le_refl _) (Nat.le_refl _) (by rw [E9] <;> rfl) rfl (by rw [E9] <;> exact rfl)
    · skip
      refine am_iconstN (pc := 18) (k := 0) C dX12_readAtom_18 ?_
      have E9 : rf_atm (h 328) dd (Cc (h 328)) (A (h 328)) (h 322) (h 323) = (false, rf_oSig (h 328) (h 322) 40, h 323) := (by rw [rf_atm_p q6, rf_atP, if_pos q15])
      exact am_iretb T dX12_readAtom_19 rfl (Nat.le_refl _) (Nat.le_refl _) (by rw [E9] <;> rfl) rfl (by rw [E9] <;> exact (show (am_row h 322 (rf_oSig (h 328) (h 322) 40)) = (am_row (am_row h 322 (rf_oSig (h 328) (h 322) 40)) 323 (h 323)) from (am_hA (f := h) (i := 322) (j := 323) (by decide)).symm))

/-! by depth -/
section M10B
theorem c_X12_cond {A : rf_W → rf_Rd} {dd d : Nat} (hd : 20 ≤ d) (hPA : rf_PA A dd d) (hgA : ∀ t, rf_good (A t) dd) : rf_PC (fun t => rf_cond t (A t)) dd (d + 2) := fun ad r hR h h1 h2 => c_X12_readCond hR A dd d hd hPA hgA h1 h2
theorem c_X12_atoms : ∀ n, n ≤ 6 → rf_PA (fun t => rf_atom t n) (6 - n) (21 + 3 * n)
  | 0, _ => fun ad r hR h h1 h2 => by
    have K := c_X12_readAtom (ad := ad) hR (fun _ o w => (false, o, w)) (fun _ o w => (false, o, w)) 6 20 20 20 (by omega) (by omega) (by omega) (by omega) (fun z => absurd rfl z) (fun z => absurd rfl z) (fun _ z => absurd rfl z) (fun _ z => absurd rfl z) h1 h2
    have e : rf_atom (h 328) 0 (h 322) (h 323) = rf_atm (h 328) 6 (fun o w => (false, o, w)) (fun o w => (false, o, w)) (h 322) (h 323) := by rw [rf_atom]
    show am_CM _ _ _ _ _ _ _ _ (am_po (some (.int (am_b (rf_atom (h 328) 0 (h 322) (h 323)).1))) r (am_row (am_row h 322 (rf_atom (h 328) 0 (h 322) (h 323)).2.1) 323 (rf_atom (h 328) 0 (h 322) (h 323)).2.2))
    rw [e]
    exact K
  | n + 1, hn => by
    have ih := c_X12_atoms n (by omega)
    have hg : ∀ t, rf_good (rf_atom t n) (6 - n) := fun t => rf_good_atom (t := t) n (by omega)
    have hc := c_X12_cond (by omega) ih hg
    have hgc : ∀ t, rf_good (rf_cond t (rf_atom t n)) (6 - n) := fun t => rf_good_cond (t := t) (hg t)
    have e6 : 6 - n = 5 - n + 1 := by omega
    rw [e6] at ih hg hc hgc
    refine fun ad r hR h h1 h2 => ?_
    have K := c_X12_readAtom (ad := ad) hR (fun t => rf_cond t (rf_atom t n)) (fun t => rf_atom t n) (5 - n) (21 + 3 * n) (21 + 3 * n + 2) (21 + 3 * n + 2) (by omega) (by omega) (by omega) (by omega) (fun _ => hc) (fun _ => ih) (fun t _ => hgc t) (fun t _ => hg t) h1 (by rw [h2]; exact congrArg nI (by omega))
    have e : rf_atom (h 328) (n + 1) (h 322) (h 323) = rf_atm (h 328) (5 - n) (rf_cond (h 328) (rf_atom (h 328) n)) (rf_atom (h 328) n) (h 322) (h 323) := by rw [rf_atom]
    show am_CM _ _ _ _ _ _ _ _ (am_po (some (.int (am_b (rf_atom (h 328) (n + 1) (h 322) (h 323)).1))) r (am_row (am_row h 322 (rf_atom (h 328) (n + 1) (h 322) (h 323)).2.1) 323 (rf_atom (h 328) (n + 1) (h 322) (h 323)).2.2))
    rw [e]
    exact K
/-- a whole condition, from depth 0 on -/
theorem c_X12_cond0 : rf_PC (fun t => rf_cond t (rf_atom t 6)) 0 41 := c_X12_cond (by omega) (c_X12_atoms 6 (by omega)) (fun t => rf_good_atom (t := t) 6 (by omega))
end M10B

