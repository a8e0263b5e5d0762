/-! THE CLASS: an hour -/

set_option maxHeartbeats 400000 in
set_option maxRecDepth 100000 in
theorem c_X10_passHour {ad : Nat → Nat} {r : am_R} (hR : am_rs r) {h : am_H}  (w : rf_W) (hV : rf_I w) (hLo : cl_Lo (h) 4 w) (hSc : cl_Sc (h) 25 w) (hB : rf_n (w 7) 1073741824) (hLw : rf_Lw w) (hLk : rf_Lk w) (hA : cl_La (h) 17 w)  : am_CM mX10_passHour 6 0 0 [.ref 3] (am_VV ad) r h (am_pr none r (fun c9 => cl_Sc c9 25 (rf_hour w) ∧ cl_fr (h) c9 23 17)) := by
  refine am_CM.of (by decide +kernel) (Nat.le_of_ble_eq_true rfl) (fun X C T => ?_)
  show am_G X (am_VV ad) (0, 0) 0 [(0, .ref 3)] [] r h
  have hM9 : rf_M w < 17 := hV.1.1.2
  have hS9 : rf_S w < 11 := hV.1.2.1.2
  have hO9 : rf_O w < 11 := hV.1.2.2.2
  obtain ⟨VG, PG⟩ := rf_goon_ok hV (rf_S w) (Nat.le_refl _)
  obtain ⟨EG, BG⟩ := rf_Es_goon hV (rf_S w) (Nat.le_refl _)
  have hSG : rf_S (rf_goon w (rf_S w)) = rf_S w := EG.S
  have hBG : rf_n ((rf_goon w (rf_S w)) 7) 1073741824 := by rw [BG]; exact hB
  obtain ⟨VH, PH⟩ := rf_shs_ok VG (rf_S w) (by omega)
  obtain ⟨EH, BH⟩ := rf_Es_shs VG hBG (by omega) (rf_S w) (by omega)
  have hSH : rf_S (rf_shs (rf_goon w (rf_S w)) (rf_S w)) = rf_S w := (EG.tr EH).S
  refine am_iconstN (pc := 0) (k := 0) C dX10_passHour_0 ?_
  refine am_istore_n (pc := 1) (ls' := [(0, .ref 3), (1, .int (nI 0))]) C dX10_passHour_1 (by decide) rfl ?_
  have L2 : ∀ (j2 : Nat) (ga : am_H) (n : Nat), (hnj : n + j2 = rf_S w) → (hSa : cl_Sc ga 25 (rf_goon w n)) → (hFa : cl_fr h ga 23 17) → am_G X (am_VV ad) (0, 0) 2 [(0, .ref 3), (1, .int (nI n))] [] r ga := by
    intro j2
    induction j2 with
    | zero =>
      intro ga n hnj hSa hFa
      obtain ⟨Va, Pa⟩ := rf_goon_ok hV n (by omega)
      have Ea := (rf_Es_goon hV n (by omega)).1
      have La : cl_Lo ga 4 (rf_goon w n) := cl_Lo_Es hV Ea (cl_Lo_eq (fun i a b => hFa i (by omega)) hLo)
      have Aa : cl_La ga 17 (rf_goon w n) := cl_La_Es Ea (cl_La_eq (fun i a b => hFa i (by omega)) hA)
      have hSAa : rf_S (rf_goon w n) = rf_S w := (Ea).S
      refine am_iload_n (pc := 2) C dX10_passHour_2 rfl ?_
      refine am_aload_n (pc := 3) C dX10_passHour_3 rfl ?_
      refine am_getR (pc := 4) (j := 4) C dX10_passHour_4 f10_9 bn_3 sh_3 (rf_3_0 hR) ?_
      refine am_getI (pc := 7) C dX10_passHour_7 f10_138 bn_4 sh_4 ?_
      refine am_top (show ((ga 4) 2) = (nI (rf_S (rf_goon w n))) from (La.1.2.2.1.trans Va.1.2.1.1)) ?_
      refine am_top (show (nI (rf_S (rf_goon w n))) = (nI (rf_S w)) from (congrArg nI hSAa)) ?_
      refine am_icmp_geN (pc := 10) (tgt := 24) C dX10_passHour_10 (by decide) (by omega) (by omega) (fun q10 => ?_) (fun q10 => ?_)
      · skip
        refine am_iconstN (pc := 24) (k := 0) C dX10_passHour_24 ?_
        refine am_istore_n (pc := 25) (ls' := [(0, .ref 3), (1, .int (nI 0))]) C dX10_passHour_25 (by decide) rfl ?_
        have L26 : ∀ (j26 : Nat) (gb : am_H) (m : Nat), (hmj : m + j26 = rf_S w) → (hSb : cl_Sc gb 25 (rf_shs (rf_goon w (rf_S w)) m)) → (hFb : cl_fr h gb 23 17) → am_G X (am_VV ad) (0, 0) 26 [(0, .ref 3), (1, .int (nI m))] [] r gb := by
          intro j26
          induction j26 with
          | zero =>
            intro gb m hmj hSb hFb
            obtain ⟨Vb, Pb⟩ := rf_shs_ok VG m (by omega)
            obtain ⟨Eb, Bb⟩ := rf_Es_shs VG hBG (by omega) m (by omega)
            have Lb : cl_Lo gb 4 (rf_shs (rf_goon w (rf_S w)) m) := cl_Lo_Es hV (EG.tr Eb) (cl_Lo_eq (fun i a b => hFb i (by omega)) hLo)
            have Ab : cl_La gb 17 (rf_shs (rf_goon w (rf_S w)) m) := cl_La_Es (EG.tr Eb) (cl_La_eq (fun i a b => hFb i (by omega)) hA)
            have hSAb : rf_S (rf_shs (rf_goon w (rf_S w)) m) = rf_S w := ((EG.tr Eb)).S
            refine am_iload_n (pc := 26) C dX10_passHour_26 rfl ?_
            refine am_aload_n (pc := 27) C dX10_passHour_27 rfl ?_
            refine am_getR (pc := 28) (j := 4) C dX10_passHour_28 f10_9 bn_3 sh_3 (rf_3_0 hR) ?_
            refine am_getI (pc := 31) C dX10_passHour_31 f10_138 bn_4 sh_4 ?_
            refine am_top (show ((gb 4) 2) = (nI (rf_S (rf_shs (rf_goon w (rf_S w)) m))) from (Lb.1.2.2.1.trans Vb.1.2.1.1)) ?_
            refine am_top (show (nI (rf_S (rf_shs (rf_goon w (rf_S w)) m))) = (nI (rf_S w)) from (congrArg nI hSAb)) ?_
            refine am_icmp_geN (pc := 34) (tgt := 48) C dX10_passHour_34 (by decide) (by omega) (by omega) (fun q34 => ?_) (fun q34 => ?_)
            · skip
              refine am_iconstN (pc := 48) (k := 0) C dX10_passHour_48 ?_
              refine am_istore_n (pc := 49) (ls' := [(0, .ref 3), (1, .int (nI 0))]) C dX10_passHour_49 (by decide) rfl ?_
              have L50 : ∀ (j50 : Nat) (gc : am_H) (k : Nat), (hkj : k + j50 = rf_S w) → (hSd : cl_Sc gc 25 (rf_rds (rf_shs (rf_goon w (rf_S w)) (rf_S w)) k)) → (hFc : cl_fr h gc 23 17) → am_G X (am_VV ad) (0, 0) 50 [(0, .ref 3), (1, .int (nI k))] [] r gc := by
                intro j50
                induction j50 with
                | zero =>
                  intro gc k hkj hSd hFc
                  obtain ⟨Vc, Pc⟩ := rf_rds_ok VH k (by omega)
                  have Ec := (rf_Es_rds VH k (by omega)).1
                  have Lc : cl_Lo gc 4 (rf_rds (rf_shs (rf_goon w (rf_S w)) (rf_S w)) k) := cl_Lo_Es hV ((EG.tr EH).tr Ec) (cl_Lo_eq (fun i a b => hFc i (by omega)) hLo)
                  have Ac : cl_La gc 17 (rf_rds (rf_shs (rf_goon w (rf_S w)) (rf_S w)) k) := cl_La_Es ((EG.tr EH).tr Ec) (cl_La_eq (fun i a b => hFc i (by omega)) hA)
                  have hSAc : rf_S (rf_rds (rf_shs (rf_goon w (rf_S w)) (rf_S w)) k) = rf_S w := (((EG.tr EH).tr Ec)).S
                  refine am_iload_n (pc := 50) C dX10_passHour_50 rfl ?_
                  refine am_aload_n (pc := 51) C dX10_passHour_51 rfl ?_
                  refine am_getR (pc := 52) (j := 4) C dX10_passHour_52 f10_9 bn_3 sh_3 (rf_3_0 hR) ?_
                  refine am_getI (pc := 55) C dX10_passHour_55 f10_138 bn_4 sh_4 ?_
                  refine am_top (show ((gc 4) 2) = (nI (rf_S (rf_rds (rf_shs (rf_goon w (rf_S w)) (rf_S w)) k))) from (Lc.1.2.2.1.trans Vc.1.2.1.1)) ?_
                  refine am_top (show (nI (rf_S (rf_rds (rf_shs (rf_goon w (rf_S w)) (rf_S w)) k))) = (nI (rf_S w)) from (congrArg nI hSAc)) ?_
                  refine am_icmp_geN (pc := 58) (tgt := 96) C dX10_passHour_58 (by decide) (by omega) (by omega) (fun q58 => ?_) (fun q58 => ?_)
                  · skip
                    refine am_aload_n (pc := 96) C dX10_passHour_96 rfl ?_
                    refine am_getR (pc := 97) (j := 25) C dX10_passHour_97 f10_22 bn_3 sh_3 (rf_3_2 hR) ?_
                    refine am_dup (pc := 100) C dX10_passHour_100 rfl ?_
                    refine am_getI (pc := 101) C dX10_passHour_101 f10_169 bn_25 sh_25 ?_
                    refine am_top (show ((gc 25) 0) = ((rf_rds (rf_shs (rf_goon w (rf_S w)) (rf_S w)) k) 5) from hSd.1.1) ?_
                    refine am_iconstN (pc := 104) (k := 1) C dX10_passHour_104 ?_
                    refine am_iadd (pc := 105) C dX10_passHour_105 ?_
                    refine am_putI (pc := 106) C dX10_passHour_106 f10_169 bn_25 sh_25 rfl rfl ?_
                    refine am_hp (show am_up gc 25 0 (((rf_rds (rf_shs (rf_goon w (rf_S w)) (rf_S w)) k) 5) + (nI 1)) = am_row gc 25 (upd (gc 25) 0 (((rf_rds (rf_shs (rf_goon w (rf_S w)) (rf_S w)) k) 5) + (nI 1))) from am_up_rw _ _ _ _) ?_
                    exact am_vretvr T dX10_passHour_109 rfl (Nat.le_refl _) (Nat.le_refl _) rfl ⟨by rw [rf_hour, ← show rf_rds (rf_shs (rf_goon w (rf_S w)) (rf_S w)) k = rf_rds (rf_shs (rf_goon w (rf_S w)) (rf_S w)) (rf_S w) by rw [show k = rf_S w by omega]]; exact cl_Sc_num Vc hSd (Or.inl ⟨rfl, rfl⟩) rfl (fun i h7 g7 => by rw [am_row_ne _ _ _ (by omega)]), (fun i9 h9 => by rw [am_row_ne _ _ _ (by omega)]; exact hFc i9 h9)⟩
                  · skip
                    exact absurd q58 (by omega)
                | succ j50 ih50 =>
                  intro gc k hkj hSd hFc
                  obtain ⟨Vc, Pc⟩ := rf_rds_ok VH k (by omega)
                  have Ec := (rf_Es_rds VH k (by omega)).1
                  have Lc : cl_Lo gc 4 (rf_rds (rf_shs (rf_goon w (rf_S w)) (rf_S w)) k) := cl_Lo_Es hV ((EG.tr EH).tr Ec) (cl_Lo_eq (fun i a b => hFc i (by omega)) hLo)
                  have Ac : cl_La gc 17 (rf_rds (rf_shs (rf_goon w (rf_S w)) (rf_S w)) k) := cl_La_Es ((EG.tr EH).tr Ec) (cl_La_eq (fun i a b => hFc i (by omega)) hA)
                  have hSAc : rf_S (rf_rds (rf_shs (rf_goon w (rf_S w)) (rf_S w)) k) = rf_S w := (((EG.tr EH).tr Ec)).S
                  refine am_iload_n (pc := 50) C dX10_passHour_50 rfl ?_
                  refine am_aload_n (pc := 51) C dX10_passHour_51 rfl ?_
                  refine am_getR (pc := 52) (j := 4) C dX10_passHour_52 f10_9 bn_3 sh_3 (rf_3_0 hR) ?_
                  refine am_getI (pc := 55) C dX10_passHour_55 f10_138 bn_4 sh_4 ?_
                  refine am_top (show ((gc 4) 2) = (nI (rf_S (rf_rds (rf_shs (rf_goon w (rf_S w)) (rf_S w)) k))) from (Lc.1.2.2.1.trans Vc.1.2.1.1)) ?_
                  refine am_top (show (nI (rf_S (rf_rds (rf_shs (rf_goon w (rf_S w)) (rf_S w)) k))) = (nI (rf_S w)) from (congrArg nI hSAc)) ?_
                  refine am_icmp_geN (pc := 58) (tgt := 96) C dX10_passHour_58 (by decide) (by omega) (by omega) (fun q58 => ?_) (fun q58 => ?_)
                  · skip
                    exact absurd q58 (by omega)
                  · skip
                    refine am_aload_n (pc := 61) C dX10_passHour_61 rfl ?_
                    refine am_getR (pc := 62) (j := 4) C dX10_passHour_62 f10_9 bn_3 sh_3 (rf_3_0 hR) ?_
                    refine am_getR (pc := 65) (j := 11) C dX10_passHour_65 f10_135 bn_4 sh_4 (rf_4_10 hR) ?_
                    refine am_iload_n (pc := 68) C dX10_passHour_68 rfl ?_
                    refine am_callSNi (Y := mX11_pick) (pc := 69) (st := []) (As := [.ref 11, .int (nI k)]) (x := ((gc 11) k)) (h2 := gc) C dX10_passHour_69 k10_54 v_X11_pick rfl rfl (by decide) (Nat.zero_le _) (Nat.zero_le _) (Nat.le_of_ble_eq_true rfl) (c_X11_pick 11 k 10 bn_11 sh_11 (show k < 10 from by omega) (by decide)) ?_
                    refine am_top (show ((gc 11) k) = (rf_of (rf_rds (rf_shs (rf_goon w (rf_S w)) (rf_S w)) k) k 22) from (Lc.2.2.1 k (by omega)).2.1) ?_
                    refine am_if_eq (pc := 72) (tgt := 90) C dX10_passHour_72 (by decide) (fun q72 => ?_) (fun q72 => ?_)
                    · skip
                      refine am_iincN (pc := 90) (ls' := [(0, .ref 3), (1, .int (nI (k + 1)))]) C dX10_passHour_90 rfl (am_up1 _) (by decide) rfl ?_
                      refine am_goto (pc := 93) (tgt := 50) C dX10_passHour_93 (by decide) ?_
                      exact ih50 gc (k + 1) (by omega) (by rw [rf_rds, if_neg (fun z => z.1 q72)]; exact hSd) hFc
                    · skip
                      refine am_aload_n (pc := 75) C dX10_passHour_75 rfl ?_
                      refine am_iload_n (pc := 76) C dX10_passHour_76 rfl ?_
                      refine am_iconstN (pc := 77) (k := 2) C dX10_passHour_77 ?_
                      refine am_callVir (Y := mX10_ruled) (pc := 78) (st := []) (As := [.int (nI k), .int (nI 2)]) (x := (nI (cl_says (rf_rds (rf_shs (rf_goon w (rf_S w)) (rf_S w)) k) 2 k))) (PP := fun c9 => cl_fr (gc) c9 23 2) C dX10_passHour_78 k10_163 v_X10_ruled rfl rfl bn_3 sh_3 ⟨by decide, rfl⟩ (by decide) (Nat.zero_le _) (Nat.zero_le _) (Nat.le_of_ble_eq_true rfl) (c_X10_ruled hR k 2 (rf_rds (rf_shs (rf_goon w (rf_S w)) (rf_S w)) k) Vc Lc hSd (show k < rf_S (rf_rds (rf_shs (rf_goon w (rf_S w)) (rf_S w)) k) from (by omega)) (show 2 < 3 from (by omega)) (show rf_Lw (rf_rds (rf_shs (rf_goon w (rf_S w)) (rf_S w)) k) from (((PG.tr PH).tr Pc).L hLw)) (show rf_Lk (rf_rds (rf_shs (rf_goon w (rf_S w)) (rf_S w)) k) from (rf_Lk_Eq ((PG.tr PH).tr Pc) hLk)) (show cl_La (gc) 17 (rf_rds (rf_shs (rf_goon w (rf_S w)) (rf_S w)) k) from Ac)) (fun g78_3 hg78_3 => ?_)
                      have F78 := hg78_3
                      have S78 : cl_Sc g78_3 25 (rf_rds (rf_shs (rf_goon w (rf_S w)) (rf_S w)) k) := cl_Sc_eq (fun i a b => F78 i (by omega)) hSd
                      have Q78 : cl_fr h g78_3 23 17 := fun i h9 => (F78 i (by omega)).trans (hFc i h9)
                      have L78 : cl_Lo g78_3 4 (rf_rds (rf_shs (rf_goon w (rf_S w)) (rf_S w)) k) := cl_Lo_Es hV ((EG.tr EH).tr Ec) (cl_Lo_eq (fun i a b => Q78 i (by omega)) hLo)
                      have hc78 : cl_says (rf_rds (rf_shs (rf_goon w (rf_S w)) (rf_S w)) k) 2 k ≤ 100 := cl_says_le
                      refine am_if_leN (pc := 81) (tgt := 90) C dX10_passHour_81 (by decide) (by omega) (fun q81 => ?_) (fun q81 => ?_)
                      · skip
                        refine am_iincN (pc := 90) (ls' := [(0, .ref 3), (1, .int (nI (k + 1)))]) C dX10_passHour_90 rfl (am_up1 _) (by decide) rfl ?_
                        refine am_goto (pc := 93) (tgt := 50) C dX10_passHour_93 (by decide) ?_
                        exact ih50 g78_3 (k + 1) (by omega) (by rw [rf_rds, if_neg (fun z => by have := cl_says_21.mpr z.2; omega)]; exact S78) Q78
                      · skip
                        refine am_aload_n (pc := 84) C dX10_passHour_84 rfl ?_
                        refine am_iload_n (pc := 85) C dX10_passHour_85 rfl ?_
                        refine am_callVir (Y := mX10_readAloud) (pc := 86) (st := []) (As := [.int (nI k)]) (x := (nI ((rf_read (rf_rds (rf_shs (rf_goon w (rf_S w)) (rf_S w)) k) k).2))) (PP := fun c9 => cl_Sc c9 25 (rf_read (rf_rds (rf_shs (rf_goon w (rf_S w)) (rf_S w)) k) k).1 ∧ cl_fr (g78_3) c9 25 15) C dX10_passHour_86 k10_166 v_X10_readAloud rfl rfl bn_3 sh_3 ⟨by decide, rfl⟩ (by decide) (Nat.zero_le _) (Nat.zero_le _) (Nat.le_of_ble_eq_true rfl) (c_X10_readAloud hR k (rf_rds (rf_shs (rf_goon w (rf_S w)) (rf_S w)) k) Vc L78 S78 (show k < rf_S (rf_rds (rf_shs (rf_goon w (rf_S w)) (rf_S w)) k) from (by omega))) (fun g86_4 hg86_4 => ?_)
                        obtain ⟨S86, F86⟩ := hg86_4
                        refine am_pop (pc := 89) C dX10_passHour_89 rfl ?_
                        refine am_iincN (pc := 90) (ls' := [(0, .ref 3), (1, .int (nI (k + 1)))]) C dX10_passHour_90 rfl (am_up1 _) (by decide) rfl ?_
                        refine am_goto (pc := 93) (tgt := 50) C dX10_passHour_93 (by decide) ?_
                        exact ih50 g86_4 (k + 1) (by omega) (by rw [rf_rds, if_pos ⟨q72, cl_says_21.mp (by omega)⟩]; exact S86) (fun i h9 => (F86 i (by omega)).trans (Q78 i h9))
              exact L50 (rf_S w) gb 0 (by omega) (by show cl_Sc gb 25 (rf_shs (rf_goon w (rf_S w)) (rf_S w)); rw [show (rf_shs (rf_goon w (rf_S w)) (rf_S w)) = rf_shs (rf_goon w (rf_S w)) m by rw [show m = rf_S w by omega]]; exact hSb) hFb
            · skip
              exact absurd q34 (by omega)
          | succ j26 ih26 =>
            intro gb m hmj hSb hFb
            obtain ⟨Vb, Pb⟩ := rf_shs_ok VG m (by omega)
            obtain ⟨Eb, Bb⟩ := rf_Es_shs VG hBG (by omega) m (by omega)
            have Lb : cl_Lo gb 4 (rf_shs (rf_goon w (rf_S w)) m) := cl_Lo_Es hV (EG.tr Eb) (cl_Lo_eq (fun i a b => hFb i (by omega)) hLo)
            have Ab : cl_La gb 17 (rf_shs (rf_goon w (rf_S w)) m) := cl_La_Es (EG.tr Eb) (cl_La_eq (fun i a b => hFb i (by omega)) hA)
            have hSAb : rf_S (rf_shs (rf_goon w (rf_S w)) m) = rf_S w := ((EG.tr Eb)).S
            refine am_iload_n (pc := 26) C dX10_passHour_26 rfl ?_
            refine am_aload_n (pc := 27) C dX10_passHour_27 rfl ?_
            refine am_getR (pc := 28) (j := 4) C dX10_passHour_28 f10_9 bn_3 sh_3 (rf_3_0 hR) ?_
            refine am_getI (pc := 31) C dX10_passHour_31 f10_138 bn_4 sh_4 ?_
            refine am_top (show ((gb 4) 2) = (nI (rf_S (rf_shs (rf_goon w (rf_S w)) m))) from (Lb.1.2.2.1.trans Vb.1.2.1.1)) ?_
            refine am_top (show (nI (rf_S (rf_shs (rf_goon w (rf_S w)) m))) = (nI (rf_S w)) from (congrArg nI hSAb)) ?_
            refine am_icmp_geN (pc := 34) (tgt := 48) C dX10_passHour_34 (by decide) (by omega) (by omega) (fun q34 => ?_) (fun q34 => ?_)
            · skip
              exact absurd q34 (by omega)
            · skip
              refine am_aload_n (pc := 37) C dX10_passHour_37 rfl ?_
              refine am_iload_n (pc := 38) C dX10_passHour_38 rfl ?_
              refine am_callVvr (Y := mX10_fire) (pc := 39) (st := []) (As := [.int (nI m)]) (PP := fun c9 => cl_Sc c9 25 (rf_shoot (rf_shs (rf_goon w (rf_S w)) m) m) ∧ cl_fr (gb) c9 23 17) C dX10_passHour_39 k10_160 v_X10_fire rfl rfl bn_3 sh_3 ⟨by decide, rfl⟩ (by decide) (Nat.zero_le _) (Nat.zero_le _) (Nat.le_of_ble_eq_true rfl) (c_X10_fire hR m (rf_shs (rf_goon w (rf_S w)) m) Vb Lb hSb (show m < rf_S (rf_shs (rf_goon w (rf_S w)) m) from (by omega)) (show rf_n ((rf_shs (rf_goon w (rf_S w)) m) 7) 2147483647 from ⟨Bb.1, by have h9 := Bb.2; omega⟩) (show rf_Lw (rf_shs (rf_goon w (rf_S w)) m) from ((PG.tr Pb).L hLw)) (show rf_Lk (rf_shs (rf_goon w (rf_S w)) m) from (rf_Lk_Eq (PG.tr Pb) hLk)) (show cl_La (gb) 17 (rf_shs (rf_goon w (rf_S w)) m) from Ab)) (fun g39_5 hg39_5 => ?_)
              obtain ⟨S39, F39⟩ := hg39_5
              refine am_iincN (pc := 42) (ls' := [(0, .ref 3), (1, .int (nI (m + 1)))]) C dX10_passHour_42 rfl (am_up1 _) (by decide) rfl ?_
              refine am_goto (pc := 45) (tgt := 26) C dX10_passHour_45 (by decide) ?_
              exact ih26 g39_5 (m + 1) (by omega) S39 (fun i h9 => (F39 i (by omega)).trans (hFb i h9))
        exact L26 (rf_S w) ga 0 (by omega) (by rw [← show n = rf_S w by omega]; exact hSa) hFa
      · skip
        exact absurd q10 (by omega)
    | succ j2 ih2 =>
      intro ga n hnj hSa hFa
      obtain ⟨Va, Pa⟩ := rf_goon_ok hV n (by omega)
      have Ea := (rf_Es_goon hV n (by omega)).1
      have La : cl_Lo ga 4 (rf_goon w n) := cl_Lo_Es hV Ea (cl_Lo_eq (fun i a b => hFa i (by omega)) hLo)
      have Aa : cl_La ga 17 (rf_goon w n) := cl_La_Es Ea (cl_La_eq (fun i a b => hFa i (by omega)) hA)
      have hSAa : rf_S (rf_goon w n) = rf_S w := (Ea).S
      refine am_iload_n (pc := 2) C dX10_passHour_2 rfl ?_
      refine am_aload_n (pc := 3) C dX10_passHour_3 rfl ?_
      refine am_getR (pc := 4) (j := 4) C dX10_passHour_4 f10_9 bn_3 sh_3 (rf_3_0 hR) ?_
      refine am_getI (pc := 7) C dX10_passHour_7 f10_138 bn_4 sh_4 ?_
      refine am_top (show ((ga 4) 2) = (nI (rf_S (rf_goon w n))) from (La.1.2.2.1.trans Va.1.2.1.1)) ?_
      refine am_top (show (nI (rf_S (rf_goon w n))) = (nI (rf_S w)) from (congrArg nI hSAa)) ?_
      refine am_icmp_geN (pc := 10) (tgt := 24) C dX10_passHour_10 (by decide) (by omega) (by omega) (fun q10 => ?_) (fun q10 => ?_)
      · skip
        exact absurd q10 (by omega)
      · skip
        refine am_aload_n (pc := 13) C dX10_passHour_13 rfl ?_
        refine am_iload_n (pc := 14) C dX10_passHour_14 rfl ?_
        refine am_callVvr (Y := mX10_goOn) (pc := 15) (st := []) (As := [.int (nI n)]) (PP := fun c9 => cl_Sc c9 25 (upd (rf_goon w n) (61 + 23 * n + 1) (nI ((rf_ofn (rf_goon w n) n 1 + 1) % rf_ofn (rf_goon w n) n 2))) ∧ cl_fr (ga) c9 25 15) C dX10_passHour_15 k10_156 v_X10_goOn rfl rfl bn_3 sh_3 ⟨by decide, rfl⟩ (by decide) (Nat.zero_le _) (Nat.zero_le _) (Nat.le_of_ble_eq_true rfl) (c_X10_goOn hR n (rf_goon w n) Va La hSa (show n < rf_S (rf_goon w n) from (by omega))) (fun g15_6 hg15_6 => ?_)
        obtain ⟨S15, F15⟩ := hg15_6
        refine am_iincN (pc := 18) (ls' := [(0, .ref 3), (1, .int (nI (n + 1)))]) C dX10_passHour_18 rfl (am_up1 _) (by decide) rfl ?_
        refine am_goto (pc := 21) (tgt := 2) C dX10_passHour_21 (by decide) ?_
        exact ih2 g15_6 (n + 1) (by omega) S15 (fun i h9 => (F15 i (by omega)).trans (hFa i h9))
  exact L2 (rf_S w) h 0 (by omega) hSc (fun _ _ => rfl)

