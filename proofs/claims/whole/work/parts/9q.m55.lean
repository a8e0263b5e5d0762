/-! THE CLASS: all lines of a law -/
section M55
theorem rf_ems_o0 {o : rf_W} : rf_ems (rf_o0 o) = 0 := by rw [rf_ems, rf_o0, rf_upd_eq]; exact rf_nat_nI (by decide)
theorem rf_ems_59 {t o : rf_W} : rf_ems (rf_o59 (rf_oBl t o)) = rf_ems o := by
  rw [rf_ems, rf_o59, rf_upd_ne (by decide)]; exact rf_ems_pb
/-- all lines of a law have been read, or not -/
def cl_AL (h c : am_H) (x : Nat × rf_W × rf_W) : Prop := (x.1 ≠ 0 → ∃ n, x.1 = n + 1 ∧ n < 13 ∧ cl_Ln c n x.2.2 ∧ cl_Ld c (rf_ems x.2.1) x.2.2 ∧ rf_Dl n (rf_ems x.2.1) x.2.2 ∧ rf_Ta x.2.1) ∧ (x.1 = 0 → (c 1) 3 = nI (rf_b x.2.1)) ∧ cl_fL h c
theorem cl_Ln_a {g c : am_H} {n : Nat} {w : rf_W} (L : cl_Ln g n w) (F : cl_fr g c 1 1) : cl_Ln c n w := by
  rw [cl_Ln, F 70 (by omega), F 71 (by omega), F 72 (by omega), F 73 (by omega), F 74 (by omega)]; exact L
theorem cl_begun (h : am_H) (w : rf_W) {g : am_H} (F : cl_fr (am_row h 70 (upd (upd (h 70) 0 (nI 0)) 1 (nI 0))) g 1 1) : cl_Ld g 0 w ∧ cl_Ln g 0 w ∧ cl_fL h g := by
  refine ⟨⟨by rw [F 70 (by omega), am_row_at, rf_upd_eq], fun i hi => absurd hi (by omega)⟩, ⟨by rw [F 70 (by omega), am_row_at, rf_upd_ne (by decide), rf_upd_eq], fun m hm => absurd hm (by omega)⟩, fun i hi => ?_⟩
  rw [F i (by omega), am_row_ne _ _ _ (by omega)]
theorem cl_linl_Ta {t q w : rf_W} {n : Nat} (hTa : rf_Ta q) (hn : n < 12) (h : (rf_lnL t n (rf_oLe t q) w).1 = true) : rf_Ta (rf_lnL t n (rf_oLe t q) w).2.1 := by
  have h2 := (rf_line_ok (t := t) (w := w) (n := n) (b := false) hTa).2
  rw [rf_line_l rfl hn] at h2
  exact (h2 h).2.1
theorem rf_Dl_L {t q w : rf_W} {n : Nat} (hn : n < 12) (hTl : rf_Tl (rf_oLe t q)) (D : rf_Dl n (rf_ems q) w) (h : (rf_lnL t n (rf_oLe t q) w).1 = true) : rf_Dl (n + 1) (rf_ems (rf_lnL t n (rf_oLe t q) w).2.1) (rf_lnL t n (rf_oLe t q) w).2.2 := by
  obtain ⟨a, b, ha, ha3, hb, hb2, hbn, hlw⟩ := rf_lw_L hTl hn h
  exact rf_Dl_s hn (D.le (Nat.le_of_eq (show rf_ems q = rf_ems (rf_oLe t q) from rf_ems_pb.symm))) hlw ha3 hb
theorem cl_lnl_bad {t q w : rf_W} {n : Nat} (hn : n < 12) (h : (rf_lnL t n (rf_oLe t q) w).1 = false) : rf_lns t false (15 - n) n q w = (0, (rf_lnL t n (rf_oLe t q) w).2) := by
  rw [show 15 - n = (15 - (n + 1)) + 1 by omega, rf_lns, rf_line_l rfl hn, h]; rfl
theorem cl_lnl_end {t q w : rf_W} {n : Nat} (hn : n < 12) (h : (rf_lnL t n (rf_oLe t q) w).1 = true) (he : rf_p (rf_oBl t (rf_lnL t n (rf_oLe t q) w).2.1) = rf_e (rf_oBl t (rf_lnL t n (rf_oLe t q) w).2.1)) : rf_lns t false (15 - n) n q w = (n + 2, rf_oBl t (rf_lnL t n (rf_oLe t q) w).2.1, (rf_lnL t n (rf_oLe t q) w).2.2) := by
  rw [show 15 - n = (15 - (n + 1)) + 1 by omega, rf_lns, rf_line_l rfl hn, h, if_pos he]; rfl
theorem cl_lnl_sig {t q w : rf_W} {n : Nat} (hn : n < 12) (h : (rf_lnL t n (rf_oLe t q) w).1 = true) (he : ¬ rf_p (rf_oBl t (rf_lnL t n (rf_oLe t q) w).2.1) = rf_e (rf_oBl t (rf_lnL t n (rf_oLe t q) w).2.1)) (hT : rf_To (rf_lnL t n (rf_oLe t q) w).2.1) (hs : rf_rSig t (rf_lnL t n (rf_oLe t q) w).2.1 59 = false) : rf_lns t false (15 - n) n q w = (0, rf_oBl t (rf_lnL t n (rf_oLe t q) w).2.1, (rf_lnL t n (rf_oLe t q) w).2.2) := by
  rw [show 15 - n = (15 - (n + 1)) + 1 by omega, rf_lns, rf_line_l rfl hn, h, if_neg he, cl_sig_at hT, hs]; rfl
theorem cl_lnl_go {t q w : rf_W} {n : Nat} (hn : n < 12) (h : (rf_lnL t n (rf_oLe t q) w).1 = true) (he : ¬ rf_p (rf_oBl t (rf_lnL t n (rf_oLe t q) w).2.1) = rf_e (rf_oBl t (rf_lnL t n (rf_oLe t q) w).2.1)) (hT : rf_To (rf_lnL t n (rf_oLe t q) w).2.1) (hs : rf_rSig t (rf_lnL t n (rf_oLe t q) w).2.1 59 = true) : rf_lns t false (15 - n) n q w = rf_lns t false (15 - (n + 1)) (n + 1) (rf_o59 (rf_oBl t (rf_lnL t n (rf_oLe t q) w).2.1)) (rf_lnL t n (rf_oLe t q) w).2.2 := by
  rw [show 15 - n = (15 - (n + 1)) + 1 by omega, rf_lns, rf_line_l rfl hn, h, if_neg he, cl_sig_at hT, hs]; rfl
theorem cl_lnl_12 {t q w : rf_W} {n : Nat} (hn : n = 12) : rf_lns t false (15 - n) n q w = (0, rf_oLe t q, w) := by
  rw [hn, show 15 - 12 = 2 + 1 from rfl, rf_lns, rf_line_l0 rfl (by omega)]; rfl
end M55

set_option maxHeartbeats 400000 in
set_option maxRecDepth 100000 in
theorem c_X2_readAll {ad : Nat → Nat} {r : am_R} (hR : am_rs r) {h : am_H}  (t : rf_W) (o : rf_W) (w : rf_W) (hOb : rf_Ob o) (hz : (h 1) 1 = o 9) (hby : cl_by (h 2) t (rf_nat (o 9)))  : am_CM mX2_readAll 50 0 0 [.ref 131] (am_VV ad) r h (am_pr (some (.int (am_b (decide ((rf_all t false o w).1 ≠ 0))))) r (fun c9 => cl_AL (h) c9 (rf_all t false o w))) := by
  refine am_CM.of (by decide +kernel) (Nat.le_of_ble_eq_true rfl) (fun X C T => ?_)
  show am_G X (am_VV ad) (0, 0) 0 [(0, .ref 131)] [] r h
  have hT0 := rf_Ta_0 hOb
  have hkd0 : cl_kd t (rf_e (rf_o0 o)) (rf_SB t (rf_o0 o)) < 4 := cl_kd_lt
  refine am_aload_n (pc := 0) C dX2_readAll_0 rfl ?_
  refine am_getR (pc := 1) (j := 70) C dX2_readAll_1 f2_15 bn_131 sh_131 (rf_131_1 hR) ?_
  refine am_callVv (Y := mX1_begin) (pc := 4) (st := []) (As := []) (h2 := (am_row h 70 (upd (upd (h 70) 0 (nI 0)) 1 (nI 0)))) C dX2_readAll_4 k2_19 v_X1_begin rfl rfl bn_70 sh_70 ⟨by decide, rfl⟩ (by decide) (Nat.zero_le _) (Nat.zero_le _) (Nat.le_of_ble_eq_true rfl) (c_X1_begin_d (h := h) hR ) ?_
  refine am_aload_n (pc := 7) C dX2_readAll_7 rfl ?_
  refine am_getR (pc := 8) (j := 1) C dX2_readAll_8 f2_9 bn_131 sh_131 (rf_131_0 hR) ?_
  refine am_callVvr (Y := mX8_open) (pc := 11) (st := []) (As := []) (PP := fun c9 => cl_to (c9) t (rf_o0 o) ∧ cl_fr ((am_row h 70 (upd (upd (h 70) 0 (nI 0)) 1 (nI 0)))) c9 1 1) C dX2_readAll_11 k2_24 v_X8_open rfl rfl bn_1 sh_1 ⟨by decide, rfl⟩ (by decide) (Nat.zero_le _) (Nat.zero_le _) (Nat.le_of_ble_eq_true rfl) (c_X8_open_o (h := (am_row h 70 (upd (upd (h 70) 0 (nI 0)) 1 (nI 0)))) hR t o (show rf_Ob o from hOb) (show (h 1) 1 = o 9 from hz) (show cl_by (h 2) t (rf_nat (o 9)) from hby)) (fun g11_0 hg11_0 => ?_)
  obtain ⟨K11, F11⟩ := hg11_0
  have B11 := cl_begun h w F11
  have D11 := B11.1
  have L11 := B11.2.1
  have W11 := B11.2.2
  refine am_aload_n (pc := 14) C dX2_readAll_14 rfl ?_
  refine am_getR (pc := 15) (j := 1) C dX2_readAll_15 f2_9 bn_131 sh_131 (rf_131_0 hR) ?_
  refine am_getI (pc := 18) C dX2_readAll_18 f2_29 bn_1 sh_1 ?_
  refine am_top (show ((g11_0 1) 2) = (nI (cl_kd t (rf_e (rf_o0 o)) (rf_SB t (rf_o0 o)))) from (cl_to_k K11)) ?_
  refine am_if_neN (pc := 21) (tgt := 26) C dX2_readAll_21 (by decide) (by omega) (fun q21 => ?_) (fun q21 => ?_)
  · skip
    refine am_iconstN (pc := 26) (k := 0) C dX2_readAll_26 ?_
    refine am_istore_n (pc := 27) (ls' := [(0, .ref 131), (1, .int (nI 0))]) C dX2_readAll_27 (by decide) rfl ?_
    have L28 : ∀ (j28 : Nat) (gk : am_H) (n : Nat) (q : rf_W) (wv : rf_W), (hnj : n + j28 = 12) → (hTa : rf_Ta q) → (hKq : cl_to gk t q) → (hDq : cl_Ld gk (rf_ems q) wv) → (hLn : cl_Ln gk n wv) → (hDl : rf_Dl n (rf_ems q) wv) → (hWk : cl_fL h gk) → (hms : rf_all t false o w = rf_lns t false (15 - n) n q wv) → am_G X (am_VV ad) (0, 0) 28 [(0, .ref 131), (1, .int (nI n))] [] r gk := by
      intro j28
      induction j28 with
      | zero =>
        intro gk n q wv hnj hTa hKq hDq hLn hDl hWk hms
        have hn12 : n = 12 := by omega
        refine am_iload_n (pc := 28) C dX2_readAll_28 rfl ?_
        refine am_bipush (pc := 29) (v := nI 12) C dX2_readAll_29 (by decide) ?_
        refine am_icmp_geN (pc := 31) (tgt := 75) C dX2_readAll_31 (by decide) (by omega) (by omega) (fun q31 => ?_) (fun q31 => ?_)
        · skip
          refine am_iconstN (pc := 75) (k := 0) C dX2_readAll_75 ?_
          have E9 : rf_all t false o w = (0, rf_oLe t q, wv) := hms.trans (cl_lnl_12 hn12)
          exact am_iretbr T dX2_readAll_76 rfl (Nat.le_refl _) (Nat.le_refl _) (by rw [E9]; rfl) rfl (by rw [E9]; exact ⟨fun z => absurd rfl z, fun _ => (cl_to_b hKq).trans (congrArg nI (rf_b_le hTa.1).symm), hWk⟩)
        · skip
          exact absurd q31 (by omega)
      | succ j28 ih28 =>
        intro gk n q wv hnj hTa hKq hDq hLn hDl hWk hms
        have hTl := rf_Ta_le (t := t) hTa
        refine am_iload_n (pc := 28) C dX2_readAll_28 rfl ?_
        refine am_bipush (pc := 29) (v := nI 12) C dX2_readAll_29 (by decide) ?_
        refine am_icmp_geN (pc := 31) (tgt := 75) C dX2_readAll_31 (by decide) (by omega) (by omega) (fun q31 => ?_) (fun q31 => ?_)
        · skip
          exact absurd q31 (by omega)
        · skip
          refine am_aload_n (pc := 34) C dX2_readAll_34 rfl ?_
          refine am_callVir (Y := mX2_readLine) (pc := 35) (st := []) (As := []) (x := (am_b ((rf_lnL t n (rf_oLe t q) wv).1))) (PP := fun c9 => cl_LL (gk) c9 t n (rf_lnL t n (rf_oLe t q) wv)) C dX2_readAll_35 k2_33 v_X2_readLine rfl rfl bn_131 sh_131 ⟨by decide, rfl⟩ (by decide) (Nat.zero_le _) (Nat.zero_le _) (Nat.le_of_ble_eq_true rfl) (c_X2_readLine (h := gk) hR t (rf_oLe t q) n wv (show rf_Tl (rf_oLe t q) from hTl) (show cl_tp (gk) t (rf_e (rf_oLe t q)) (rf_b (rf_oLe t q)) from (cl_tp_le hTa.1 hKq)) (show rf_p (rf_oLe t q) = rf_run t (rf_e (rf_oLe t q)) 97 122 (rf_b (rf_oLe t q)) from (cl_oLe_p hTa.1)) (show cl_Ld (gk) (rf_ems (rf_oLe t q)) wv from (hDq.n rf_ems_pb)) (show n < 12 from (by omega)) (show cl_Ln (gk) n wv from hLn)) (fun g35_2 hg35_2 => ?_)
          obtain ⟨G35, B35, F35⟩ := hg35_2
          have W35 : cl_fL h g35_2 := fun i h9 => (F35 i h9).trans (hWk i h9)
          refine am_if_neB (pc := 38) (tgt := 43) C dX2_readAll_38 (by decide) (fun q38 => ?_) (fun q38 => ?_)
          · skip
            have G35 := G35 q38
            have hT1 : rf_Ta ((rf_lnL t n (rf_oLe t q) wv).2.1) := cl_linl_Ta hTa (by omega) q38
            have hkd1 : cl_kd t (rf_e ((rf_lnL t n (rf_oLe t q) wv).2.1)) (rf_SB t ((rf_lnL t n (rf_oLe t q) wv).2.1)) < 4 := cl_kd_lt
            refine am_aload_n (pc := 43) C dX2_readAll_43 rfl ?_
            refine am_getR (pc := 44) (j := 1) C dX2_readAll_44 f2_9 bn_131 sh_131 (rf_131_0 hR) ?_
            refine am_getI (pc := 47) C dX2_readAll_47 f2_29 bn_1 sh_1 ?_
            refine am_top (show ((g35_2 1) 2) = (nI (cl_kd t (rf_e ((rf_lnL t n (rf_oLe t q) wv).2.1)) (rf_SB t ((rf_lnL t n (rf_oLe t q) wv).2.1)))) from (cl_to_k G35.1)) ?_
            refine am_if_neN (pc := 50) (tgt := 55) C dX2_readAll_50 (by decide) (by omega) (fun q50 => ?_) (fun q50 => ?_)
            · skip
              refine am_aload_n (pc := 55) C dX2_readAll_55 rfl ?_
              refine am_getR (pc := 56) (j := 1) C dX2_readAll_56 f2_9 bn_131 sh_131 (rf_131_0 hR) ?_
              refine am_bipush (pc := 59) (v := nI 59) C dX2_readAll_59 (by decide) ?_
              refine am_callVir (Y := mX8_takeSign) (pc := 61) (st := []) (As := [.int (nI 59)]) (x := (am_b (rf_rSig t ((rf_lnL t n (rf_oLe t q) wv).2.1) 59))) (PP := fun c9 => (rf_rSig t ((rf_lnL t n (rf_oLe t q) wv).2.1) 59 = true → cl_to (c9) t (rf_oSig t ((rf_lnL t n (rf_oLe t q) wv).2.1) 59)) ∧ (rf_rSig t ((rf_lnL t n (rf_oLe t q) wv).2.1) 59 = false → c9 = (g35_2)) ∧ cl_fr (g35_2) c9 1 1) C dX2_readAll_61 k2_37 v_X8_takeSign rfl rfl bn_1 sh_1 ⟨by decide, rfl⟩ (by decide) (Nat.zero_le _) (Nat.zero_le _) (Nat.le_of_ble_eq_true rfl) (c_X8_takeSign_o (h := g35_2) hR 59 t ((rf_lnL t n (rf_oLe t q) wv).2.1) (show cl_to (g35_2) t ((rf_lnL t n (rf_oLe t q) wv).2.1) from G35.1) (show cl_sg 59 from (by unfold cl_sg; decide)) (show rf_To ((rf_lnL t n (rf_oLe t q) wv).2.1) from hT1.1)) (fun g61_3 hg61_3 => ?_)
              have H61 := hg61_3
              refine am_if_neB (pc := 64) (tgt := 69) C dX2_readAll_64 (by decide) (fun q64 => ?_) (fun q64 => ?_)
              · skip
                refine am_iincN (pc := 69) (ls' := [(0, .ref 131), (1, .int (nI (n + 1)))]) C dX2_readAll_69 rfl (am_up1 _) (by decide) rfl ?_
                refine am_goto (pc := 72) (tgt := 28) C dX2_readAll_72 (by decide) ?_
                exact ih28 g61_3 (n + 1) (rf_o59 (rf_oBl t ((rf_lnL t n (rf_oLe t q) wv).2.1))) ((rf_lnL t n (rf_oLe t q) wv).2.2) (by omega) (rf_Ta_59 (rf_Ta_bl hT1) (cl_end_lt hT1.1 q50)) (cl_to_eq (H61.1 q64) (rf_e_59b hT1.1) (rf_SB_59 hT1.1 q64)) ((G35.2.1.a H61.2.2).n rf_ems_59) (cl_Ln_a G35.2.2 H61.2.2) ((rf_Dl_L (by omega) hTl hDl q38).le (Nat.le_of_eq rf_ems_59.symm)) (fun i h9 => (H61.2.2 i (by omega)).trans (W35 i h9)) (hms.trans (cl_lnl_go (by omega) q38 (cl_end_n hT1.1 q50) hT1.1 q64))
              · skip
                refine am_iconstN (pc := 67) (k := 0) C dX2_readAll_67 ?_
                have E9 : rf_all t false o w = (0, rf_oBl t ((rf_lnL t n (rf_oLe t q) wv).2.1), (rf_lnL t n (rf_oLe t q) wv).2.2) := hms.trans (cl_lnl_sig (by omega) q38 (cl_end_n hT1.1 q50) hT1.1 q64)
                have e61 := H61.2.1 q64
                exact am_iretbr T dX2_readAll_68 rfl (Nat.le_refl _) (Nat.le_refl _) (by rw [E9]; rfl) rfl (by rw [E9]; exact ⟨fun z => absurd rfl z, fun _ => by rw [e61]; exact (cl_to_b G35.1).trans (congrArg nI (rf_b_bl hT1.1).symm), (by rw [e61]; exact W35)⟩)
            · skip
              refine am_iconstN (pc := 53) (k := 1) C dX2_readAll_53 ?_
              have E9 : rf_all t false o w = (n + 2, rf_oBl t ((rf_lnL t n (rf_oLe t q) wv).2.1), (rf_lnL t n (rf_oLe t q) wv).2.2) := hms.trans (cl_lnl_end (by omega) q38 (cl_end_y hT1.1 q50))
              exact am_iretbr T dX2_readAll_54 rfl (Nat.le_refl _) (Nat.le_refl _) (by rw [E9]; rfl) rfl (by rw [E9]; exact ⟨fun _ => ⟨n + 1, rfl, by omega, G35.2.2, G35.2.1.n rf_ems_pb, (rf_Dl_L (by omega) hTl hDl q38).le (Nat.le_of_eq rf_ems_pb.symm), rf_Ta_bl hT1⟩, fun z => absurd z (Nat.succ_ne_zero _), W35⟩)
          · skip
            refine am_iconstN (pc := 41) (k := 0) C dX2_readAll_41 ?_
            have E9 : rf_all t false o w = (0, (rf_lnL t n (rf_oLe t q) wv).2) := hms.trans (cl_lnl_bad (by omega) q38)
            exact am_iretbr T dX2_readAll_42 rfl (Nat.le_refl _) (Nat.le_refl _) (by rw [E9]; rfl) rfl (by rw [E9]; exact ⟨fun z => absurd rfl z, fun _ => B35 q38, W35⟩)
    exact L28 12 g11_0 0 (rf_oBl t (rf_o0 o)) w (by omega) (rf_Ta_bl hT0) (cl_to_eq K11 rf_e_bl (rf_SB_bl hT0.1)) (D11.n (rf_ems_pb.trans rf_ems_o0)) L11 (fun m hm => absurd hm (by omega)) W11 (by rw [rf_all, if_neg (cl_end_n hT0.1 q21)])
  · skip
    refine am_iconstN (pc := 24) (k := 1) C dX2_readAll_24 ?_
    have E9 : rf_all t false o w = (1, rf_oBl t (rf_o0 o), w) := by rw [rf_all, if_pos (cl_end_y hT0.1 q21)]
    exact am_iretbr T dX2_readAll_25 rfl (Nat.le_refl _) (Nat.le_refl _) (by rw [E9]; rfl) rfl (by rw [E9]; exact ⟨fun _ => ⟨0, rfl, by omega, L11, D11.n (rf_ems_pb.trans rf_ems_o0), fun m hm => absurd hm (by omega), (rf_Ta_bl hT0)⟩, fun z => absurd z (Nat.succ_ne_zero 0), W11⟩)

