/-! THE CLASS: a shot -/
section M30
theorem rf_Es_draw {w : rf_W} : rf_Es w (rf_draw w) := ⟨fun _ _ => rf_upd_ne (by omega), fun _ _ _ _ => rf_upd_ne (by omega)⟩
theorem rf_tl_Eq {w w' : rf_W} (h : rf_Eq w w') : ∀ c i ts, rf_tl w' c i ts = rf_tl w c i ts
  | 0, _, _ => rfl
  | c + 1, i, ts => by
    have e : rf_sc w' i = rf_sc w i := by rw [rf_sc, rf_sc, h.2 _ (by omega)]
    rw [rf_tl, rf_tl, e]
    cases rf_tst (rf_sc w i) ts with
    | none => rfl
    | some t => exact rf_tl_Eq h c (i + 1) t
theorem rf_Lk_Eq {w w' : rf_W} (h : rf_Eq w w') (L : rf_Lk w) : rf_Lk w' := by
  intro h4 n hn
  rw [h.1 4 (by omega)] at h4
  rw [h.2 731 (by omega)] at hn
  have := L h4 n hn
  rw [h.2 _ (by omega), h.2 _ (by omega), rf_tl_Eq h]
  refine ⟨fun i h1 h2 h3 => ?_, this.2⟩
  rw [h.2 _ (by omega)]
  refine this.1 i h1 h2 ?_
  rw [← h3, rf_sc, rf_sc, h.2 _ (by omega)]
end M30

set_option maxHeartbeats 400000 in
set_option maxRecDepth 100000 in
theorem c_X5_draw_r {ad : Nat → Nat} {r : am_R} (hR : am_rs r) {h : am_H}  (w : rf_W) (hV : rf_I w) (hSc : cl_Sc (h) 25 w)  : am_CM mX5_draw 0 0 0 [.ref 25] (am_VV ad) r h (am_pr (some (.int (nI (rf_dr w)))) r (fun c9 => cl_Sc c9 25 (rf_draw w) ∧ cl_fr (h) c9 25 1)) := by
  refine am_CM.of (by decide +kernel) (Nat.le_of_ble_eq_true rfl) (fun X C T => ?_)
  show am_G X (am_VV ad) (0, 0) 0 [(0, .ref 25)] [] r h
  have hM9 : rf_M w < 17 := hV.1.1.2
  have hS9 : rf_S w < 11 := hV.1.2.1.2
  have hO9 : rf_O w < 11 := hV.1.2.2.2
  refine am_aload_n (pc := 0) C dX5_draw_0 rfl ?_
  refine am_ldci (pc := 1) (v := 1103515245) C dX5_draw_1 (am_mem 1333 (by decide +kernel) rfl) ?_
  refine am_aload_n (pc := 3) C dX5_draw_3 rfl ?_
  refine am_getI (pc := 4) C dX5_draw_4 f5_9 bn_25 sh_25 ?_
  refine am_top (show ((h 25) 1) = (w 10) from hSc.1.2.1) ?_
  refine am_imul (pc := 7) C dX5_draw_7 ?_
  refine am_sipush (pc := 8) (v := nI 12345) C dX5_draw_8 (by decide) ?_
  refine am_iadd (pc := 11) C dX5_draw_11 ?_
  refine am_putI (pc := 12) C dX5_draw_12 f5_9 bn_25 sh_25 rfl rfl ?_
  refine am_hp (show am_up h 25 1 ((1103515245 * (w 10)) + (nI 12345)) = am_row h 25 (upd (h 25) 1 ((1103515245 * (w 10)) + (nI 12345))) from am_up_rw _ _ _ _) ?_
  refine am_aload_n (pc := 15) C dX5_draw_15 rfl ?_
  refine am_getI (pc := 16) C dX5_draw_16 f5_9 bn_25 sh_25 ?_
  refine am_top (show ((upd (h 25) 1 ((1103515245 * (w 10)) + (nI 12345))) 1) = (rf_seed1 w) from rf_upd_eq) ?_
  refine am_bipush (pc := 19) (v := nI 16) C dX5_draw_19 (by decide) ?_
  refine am_ishr (pc := 21) C dX5_draw_21 ?_
  refine am_sipush (pc := 22) (v := nI 32767) C dX5_draw_22 (by decide) ?_
  refine am_iand (pc := 25) C dX5_draw_25 ?_
  refine am_top (show (((rf_seed1 w) >>> ((nI 16) &&& 31)) &&& (nI 32767)) = (nI (rf_dr w)) from (rf_dr_n w).1) ?_
  exact am_iretir T dX5_draw_26 rfl (Nat.le_refl _) (Nat.le_refl _) rfl rfl ⟨cl_Sc_num hV hSc (Or.inr (Or.inl ⟨rfl, rfl⟩)) (by show upd (h 25) 1 _ = upd (h 25) 1 (rf_seed1 w); rfl) (fun i h7 g7 => by rw [am_row_ne _ _ _ (by omega)]), fun i h9 => am_row_ne _ _ _ (by omega)⟩

set_option maxHeartbeats 400000 in
set_option maxRecDepth 100000 in
theorem c_X10_fire {ad : Nat → Nat} {r : am_R} (hR : am_rs r) {h : am_H} (s : Nat) (w : rf_W) (hV : rf_I w) (hLo : cl_Lo (h) 4 w) (hSc : cl_Sc (h) 25 w) (hs : s < rf_S w) (hB : rf_n (w 7) 2147483647) (hLw : rf_Lw w) (hLk : rf_Lk w) (hA : cl_La (h) 17 w)  : am_CM mX10_fire 5 0 0 [.ref 3, .int (nI s)] (am_VV ad) r h (am_pr none r (fun c9 => cl_Sc c9 25 (rf_shoot w s) ∧ cl_fr (h) c9 23 17)) := by
  refine am_CM.of (by decide +kernel) (Nat.le_of_ble_eq_true rfl) (fun X C T => ?_)
  show am_G X (am_VV ad) (0, 0) 0 [(0, .ref 3), (1, .int (nI s))] [] r h
  have hM9 : rf_M w < 17 := hV.1.1.2
  have hS9 : rf_S w < 11 := hV.1.2.1.2
  have hO9 : rf_O w < 11 := hV.1.2.2.2
  have htg := rf_tgt_le w (rf_sideIn w (nI 1 - rf_of w s 0) (rf_pl w s)) (rf_S w)
  have htb : rf_target w s < 11 := by rw [rf_target]; split <;> omega
  have V1 : rf_I (rf_draw w) := rf_I_draw hV
  have V2 : rf_I (rf_draw (rf_draw w)) := rf_I_draw V1
  have E1 : rf_Es w (rf_draw w) := rf_Es_draw
  have E2 : rf_Es w (rf_draw (rf_draw w)) := rf_Es_draw.tr rf_Es_draw
  have P1 : rf_Eq w (rf_draw w) := rf_Eq_draw
  have P2 : rf_Eq w (rf_draw (rf_draw w)) := rf_Eq_draw.tr rf_Eq_draw
  have hc1 : cl_says (rf_draw w) 0 s ≤ 100 := cl_says_le
  have hc2 : cl_says (rf_draw (rf_draw w)) 1 s ≤ 100 := cl_says_le
  have hd1 := (rf_dr_n w).2
  have hd2 := (rf_dr_n (rf_draw w)).2
  have hs1 : s < rf_S (rf_draw w) := by rw [E1.S]; exact hs
  have hs2 : s < rf_S (rf_draw (rf_draw w)) := by rw [E2.S]; exact hs
  have hq1 : cl_says (rf_draw w) 0 s = rf_says (rf_draw w) 0 s := cl_says_eq (by omega)
  have hq2 : cl_says (rf_draw (rf_draw w)) 1 s = rf_says (rf_draw (rf_draw w)) 1 s := cl_says_eq (by omega)
  refine am_aload_n (pc := 0) C dX10_fire_0 rfl ?_
  refine am_iload_n (pc := 1) C dX10_fire_1 rfl ?_
  refine am_callVi (Y := mX10_targetOf) (pc := 2) (st := []) (As := [.int (nI s)]) (x := (am_oi (rf_target w s))) (h2 := h) C dX10_fire_2 k10_172 v_X10_targetOf rfl rfl bn_3 sh_3 ⟨by decide, rfl⟩ (by decide) (Nat.zero_le _) (Nat.zero_le _) (Nat.le_of_ble_eq_true rfl) (c_X10_targetOf hR s w hV hLo hSc hs) ?_
  refine am_istore_n (pc := 5) (ls' := [(0, .ref 3), (1, .int (nI s)), (2, .int (am_oi (rf_target w s)))]) C dX10_fire_5 (by decide) rfl ?_
  refine am_iload_n (pc := 6) C dX10_fire_6 rfl ?_
  refine am_iconst (pc := 7) (v := -1) C dX10_fire_7 rfl ?_
  refine am_icmp_neO (pc := 8) (tgt := 12) C dX10_fire_8 (by decide) (by omega) (fun q8 => ?_) (fun q8 => ?_)
  · skip
    refine am_lsv (ls' := [(0, .ref 3), (1, .int (nI s)), (2, .int (nI (rf_target w s - 1)))]) (congrArg (fun z9 : Int32 => ([(0, .ref 3), (1, .int (nI s)), (2, Value.int z9)] : List (Nat × Value))) (show (am_oi (rf_target w s)) = (nI (rf_target w s - 1)) from (am_oi_p q8))) ?_
    refine am_aload_n (pc := 12) C dX10_fire_12 rfl ?_
    refine am_getR (pc := 13) (j := 25) C dX10_fire_13 f10_22 bn_3 sh_3 (rf_3_2 hR) ?_
    refine am_callVir (Y := mX5_draw) (pc := 16) (st := []) (As := []) (x := (nI (rf_dr w))) (PP := fun c9 => cl_Sc c9 25 (rf_draw w) ∧ cl_fr (h) c9 25 1) C dX10_fire_16 k10_175 v_X5_draw rfl rfl bn_25 sh_25 ⟨by decide, rfl⟩ (by decide) (Nat.zero_le _) (Nat.zero_le _) (Nat.le_of_ble_eq_true rfl) (c_X5_draw_r hR w hV hSc) (fun g16_0 hg16_0 => ?_)
    obtain ⟨S16, F16⟩ := hg16_0
    have Q16 : cl_fr h g16_0 23 17 := fun i h9 => F16 i (by omega)
    have L16 : cl_Lo g16_0 4 (rf_draw w) := cl_Lo_Es hV E1 (cl_Lo_eq (fun i a b => Q16 i (by omega)) hLo)
    have A16 : cl_La g16_0 17 (rf_draw w) := cl_La_Es E1 (cl_La_eq (fun i a b => Q16 i (by omega)) hA)
    refine am_bipush (pc := 19) (v := nI 100) C dX10_fire_19 (by decide) ?_
    refine am_iremN (pc := 21) C dX10_fire_21 (by omega) (by omega) (by omega) ?_
    refine am_aload_n (pc := 22) C dX10_fire_22 rfl ?_
    refine am_iload_n (pc := 23) C dX10_fire_23 rfl ?_
    refine am_iconstN (pc := 24) (k := 0) C dX10_fire_24 ?_
    refine am_callVir (Y := mX10_ruled) (pc := 25) (st := [.int (nI ((rf_dr w) % 100))]) (As := [.int (nI s), .int (nI 0)]) (x := (nI (cl_says (rf_draw w) 0 s))) (PP := fun c9 => cl_fr (g16_0) c9 23 2) C dX10_fire_25 k10_163 v_X10_ruled rfl rfl bn_3 sh_3 ⟨by decide, rfl⟩ (by decide) (Nat.zero_le _) (Nat.zero_le _) (Nat.le_of_ble_eq_true rfl) (c_X10_ruled hR s 0 (rf_draw w) V1 L16 S16 (show s < rf_S (rf_draw w) from hs1) (show 0 < 3 from (by omega)) (show rf_Lw (rf_draw w) from (P1.L hLw)) (show rf_Lk (rf_draw w) from (rf_Lk_Eq P1 hLk)) (show cl_La (g16_0) 17 (rf_draw w) from A16)) (fun g25_1 hg25_1 => ?_)
    have F25 := hg25_1
    have Q25 : cl_fr h g25_1 23 17 := fun i h9 => (F25 i (by omega)).trans (Q16 i h9)
    have S25 : cl_Sc g25_1 25 (rf_draw w) := cl_Sc_eq (fun i a b => F25 i (by omega)) S16
    have L25 : cl_Lo g25_1 4 (rf_draw w) := cl_Lo_Es hV E1 (cl_Lo_eq (fun i a b => Q25 i (by omega)) hLo)
    have A25 : cl_La g25_1 17 (rf_draw w) := cl_La_Es E1 (cl_La_eq (fun i a b => Q25 i (by omega)) hA)
    refine am_icmp_geN (pc := 28) (tgt := 64) C dX10_fire_28 (by decide) (by omega) (by omega) (fun q28 => ?_) (fun q28 => ?_)
    · skip
      exact am_vretvr T dX10_fire_64 rfl (Nat.le_refl _) (Nat.le_refl _) rfl ⟨by rw [rf_shoot, if_neg (by omega), if_neg (by omega)]; exact S25, Q25⟩
    · skip
      refine am_aload_n (pc := 31) C dX10_fire_31 rfl ?_
      refine am_getR (pc := 32) (j := 25) C dX10_fire_32 f10_22 bn_3 sh_3 (rf_3_2 hR) ?_
      refine am_callVir (Y := mX5_draw) (pc := 35) (st := []) (As := []) (x := (nI (rf_dr (rf_draw w)))) (PP := fun c9 => cl_Sc c9 25 (rf_draw (rf_draw w)) ∧ cl_fr (g25_1) c9 25 1) C dX10_fire_35 k10_175 v_X5_draw rfl rfl bn_25 sh_25 ⟨by decide, rfl⟩ (by decide) (Nat.zero_le _) (Nat.zero_le _) (Nat.le_of_ble_eq_true rfl) (c_X5_draw_r hR (rf_draw w) V1 S25) (fun g35_2 hg35_2 => ?_)
      obtain ⟨S35, F35⟩ := hg35_2
      have Q35 : cl_fr h g35_2 23 17 := fun i h9 => (F35 i (by omega)).trans (Q25 i h9)
      have L35 : cl_Lo g35_2 4 (rf_draw (rf_draw w)) := cl_Lo_Es hV E2 (cl_Lo_eq (fun i a b => Q35 i (by omega)) hLo)
      have A35 : cl_La g35_2 17 (rf_draw (rf_draw w)) := cl_La_Es E2 (cl_La_eq (fun i a b => Q35 i (by omega)) hA)
      refine am_bipush (pc := 38) (v := nI 100) C dX10_fire_38 (by decide) ?_
      refine am_iremN (pc := 40) C dX10_fire_40 (by omega) (by omega) (by omega) ?_
      refine am_aload_n (pc := 41) C dX10_fire_41 rfl ?_
      refine am_iload_n (pc := 42) C dX10_fire_42 rfl ?_
      refine am_iconstN (pc := 43) (k := 1) C dX10_fire_43 ?_
      refine am_callVir (Y := mX10_ruled) (pc := 44) (st := [.int (nI ((rf_dr (rf_draw w)) % 100))]) (As := [.int (nI s), .int (nI 1)]) (x := (nI (cl_says (rf_draw (rf_draw w)) 1 s))) (PP := fun c9 => cl_fr (g35_2) c9 23 2) C dX10_fire_44 k10_163 v_X10_ruled rfl rfl bn_3 sh_3 ⟨by decide, rfl⟩ (by decide) (Nat.zero_le _) (Nat.zero_le _) (Nat.le_of_ble_eq_true rfl) (c_X10_ruled hR s 1 (rf_draw (rf_draw w)) V2 L35 S35 (show s < rf_S (rf_draw (rf_draw w)) from hs2) (show 1 < 3 from (by omega)) (show rf_Lw (rf_draw (rf_draw w)) from (P2.L hLw)) (show rf_Lk (rf_draw (rf_draw w)) from (rf_Lk_Eq P2 hLk)) (show cl_La (g35_2) 17 (rf_draw (rf_draw w)) from A35)) (fun g44_3 hg44_3 => ?_)
      have F44 := hg44_3
      have Q44 : cl_fr h g44_3 23 17 := fun i h9 => (F44 i (by omega)).trans (Q35 i h9)
      have S44 : cl_Sc g44_3 25 (rf_draw (rf_draw w)) := cl_Sc_eq (fun i a b => F44 i (by omega)) S35
      have L44 : cl_Lo g44_3 4 (rf_draw (rf_draw w)) := cl_Lo_Es hV E2 (cl_Lo_eq (fun i a b => Q44 i (by omega)) hLo)
      have A44 : cl_La g44_3 17 (rf_draw (rf_draw w)) := cl_La_Es E2 (cl_La_eq (fun i a b => Q44 i (by omega)) hA)
      refine am_icmp_geN (pc := 47) (tgt := 54) C dX10_fire_47 (by decide) (by omega) (by omega) (fun q47 => ?_) (fun q47 => ?_)
      · skip
        refine am_iconstN (pc := 54) (k := 0) C dX10_fire_54 ?_
        refine am_istore_n (pc := 55) (ls' := [(0, .ref 3), (1, .int (nI s)), (2, .int (nI (rf_target w s - 1))), (3, .int (nI 0))]) C dX10_fire_55 (by decide) rfl ?_
        refine am_lsv (ls' := [(0, .ref 3), (1, .int (nI s)), (2, .int (nI (rf_target w s - 1))), (3, .int (am_b (decide (rf_dr (rf_draw w) % 100 < rf_says (rf_draw (rf_draw w)) 1 s))))]) (congrArg (fun z9 : Int32 => ([(0, .ref 3), (1, .int (nI s)), (2, .int (nI (rf_target w s - 1))), (3, Value.int z9)] : List (Nat × Value))) (show (nI 0) = (am_b (decide (rf_dr (rf_draw w) % 100 < rf_says (rf_draw (rf_draw w)) 1 s))) from (by rw [show decide (rf_dr (rf_draw w) % 100 < rf_says (rf_draw (rf_draw w)) 1 s) = false from decide_eq_false (by omega)]; rfl))) ?_
        refine am_aload_n (pc := 56) C dX10_fire_56 rfl ?_
        refine am_iload_n (pc := 57) C dX10_fire_57 rfl ?_
        refine am_iload_n (pc := 58) C dX10_fire_58 rfl ?_
        refine am_iload_n (pc := 59) C dX10_fire_59 rfl ?_
        refine am_callVir (Y := mX10_hit) (pc := 60) (st := []) (As := [.int (nI s), .int (nI (rf_target w s - 1)), .int (am_b (decide (rf_dr (rf_draw w) % 100 < rf_says (rf_draw (rf_draw w)) 1 s)))]) (x := (nI (rf_takes (rf_draw (rf_draw w)) (rf_target w s - 1) (decide (rf_dr (rf_draw w) % 100 < rf_says (rf_draw (rf_draw w)) 1 s)) - 1))) (PP := fun c9 => cl_Sc c9 25 (rf_hit (rf_draw (rf_draw w)) s (rf_target w s - 1) (decide (rf_dr (rf_draw w) % 100 < rf_says (rf_draw (rf_draw w)) 1 s))) ∧ cl_fr (g44_3) c9 25 15) C dX10_fire_60 k10_179 v_X10_hit rfl rfl bn_3 sh_3 ⟨by decide, rfl⟩ (by decide) (Nat.zero_le _) (Nat.zero_le _) (Nat.le_of_ble_eq_true rfl) (c_X10_hit hR s (rf_target w s - 1) (decide (rf_dr (rf_draw w) % 100 < rf_says (rf_draw (rf_draw w)) 1 s)) (rf_draw (rf_draw w)) V2 L44 S44 (show s < rf_S (rf_draw (rf_draw w)) from hs2) (show (rf_target w s - 1) < rf_S (rf_draw (rf_draw w)) from (by rw [E2.S]; exact (rf_target_ok q8).1)) (show 0 < rf_kn (rf_draw (rf_draw w)) (rf_target w s - 1) from (by rw [rf_kn_draw, rf_kn_draw]; exact (rf_target_ok q8).2)) (show rf_n ((rf_draw (rf_draw w)) 7) 2147483647 from (by rw [show (rf_draw (rf_draw w)) 7 = w 7 from (rf_upd_ne (by omega)).trans (rf_upd_ne (by omega))]; exact hB))) (fun g60_4 hg60_4 => ?_)
        obtain ⟨S60, F60⟩ := hg60_4
        have Q60 : cl_fr h g60_4 23 17 := fun i h9 => (F60 i (by omega)).trans (Q44 i h9)
        refine am_pop (pc := 63) C dX10_fire_63 rfl ?_
        exact am_vretvr T dX10_fire_64 rfl (Nat.le_refl _) (Nat.le_refl _) rfl ⟨by rw [rf_shoot, if_neg (by omega), if_pos (by omega)]; exact S60, Q60⟩
      · skip
        refine am_iconstN (pc := 50) (k := 1) C dX10_fire_50 ?_
        refine am_goto (pc := 51) (tgt := 55) C dX10_fire_51 (by decide) ?_
        refine am_istore_n (pc := 55) (ls' := [(0, .ref 3), (1, .int (nI s)), (2, .int (nI (rf_target w s - 1))), (3, .int (nI 1))]) C dX10_fire_55 (by decide) rfl ?_
        refine am_lsv (ls' := [(0, .ref 3), (1, .int (nI s)), (2, .int (nI (rf_target w s - 1))), (3, .int (am_b (decide (rf_dr (rf_draw w) % 100 < rf_says (rf_draw (rf_draw w)) 1 s))))]) (congrArg (fun z9 : Int32 => ([(0, .ref 3), (1, .int (nI s)), (2, .int (nI (rf_target w s - 1))), (3, Value.int z9)] : List (Nat × Value))) (show (nI 1) = (am_b (decide (rf_dr (rf_draw w) % 100 < rf_says (rf_draw (rf_draw w)) 1 s))) from (by rw [show decide (rf_dr (rf_draw w) % 100 < rf_says (rf_draw (rf_draw w)) 1 s) = true from decide_eq_true (by omega)]; rfl))) ?_
        refine am_aload_n (pc := 56) C dX10_fire_56 rfl ?_
        refine am_iload_n (pc := 57) C dX10_fire_57 rfl ?_
        refine am_iload_n (pc := 58) C dX10_fire_58 rfl ?_
        refine am_iload_n (pc := 59) C dX10_fire_59 rfl ?_
        refine am_callVir (Y := mX10_hit) (pc := 60) (st := []) (As := [.int (nI s), .int (nI (rf_target w s - 1)), .int (am_b (decide (rf_dr (rf_draw w) % 100 < rf_says (rf_draw (rf_draw w)) 1 s)))]) (x := (nI (rf_takes (rf_draw (rf_draw w)) (rf_target w s - 1) (decide (rf_dr (rf_draw w) % 100 < rf_says (rf_draw (rf_draw w)) 1 s)) - 1))) (PP := fun c9 => cl_Sc c9 25 (rf_hit (rf_draw (rf_draw w)) s (rf_target w s - 1) (decide (rf_dr (rf_draw w) % 100 < rf_says (rf_draw (rf_draw w)) 1 s))) ∧ cl_fr (g44_3) c9 25 15) C dX10_fire_60 k10_179 v_X10_hit rfl rfl bn_3 sh_3 ⟨by decide, rfl⟩ (by decide) (Nat.zero_le _) (Nat.zero_le _) (Nat.le_of_ble_eq_true rfl) (c_X10_hit hR s (rf_target w s - 1) (decide (rf_dr (rf_draw w) % 100 < rf_says (rf_draw (rf_draw w)) 1 s)) (rf_draw (rf_draw w)) V2 L44 S44 (show s < rf_S (rf_draw (rf_draw w)) from hs2) (show (rf_target w s - 1) < rf_S (rf_draw (rf_draw w)) from (by rw [E2.S]; exact (rf_target_ok q8).1)) (show 0 < rf_kn (rf_draw (rf_draw w)) (rf_target w s - 1) from (by rw [rf_kn_draw, rf_kn_draw]; exact (rf_target_ok q8).2)) (show rf_n ((rf_draw (rf_draw w)) 7) 2147483647 from (by rw [show (rf_draw (rf_draw w)) 7 = w 7 from (rf_upd_ne (by omega)).trans (rf_upd_ne (by omega))]; exact hB))) (fun g60_5 hg60_5 => ?_)
        obtain ⟨S60, F60⟩ := hg60_5
        have Q60 : cl_fr h g60_5 23 17 := fun i h9 => (F60 i (by omega)).trans (Q44 i h9)
        refine am_pop (pc := 63) C dX10_fire_63 rfl ?_
        exact am_vretvr T dX10_fire_64 rfl (Nat.le_refl _) (Nat.le_refl _) rfl ⟨by rw [rf_shoot, if_neg (by omega), if_pos (by omega)]; exact S60, Q60⟩
  · skip
    exact am_vretvr T dX10_fire_11 rfl (Nat.le_refl _) (Nat.le_refl _) rfl ⟨by rw [rf_shoot, if_pos (by omega)]; exact hSc, (fun _ _ => rfl)⟩

