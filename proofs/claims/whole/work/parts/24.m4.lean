set_option maxHeartbeats 400000 in
set_option maxRecDepth 100000 in
theorem c_X12_draw {ad : Nat → Nat} {r : am_R} (hR : am_rs r) {h : am_H} (n : Nat) (hn : 0 < n) (hn2 : n < 1000)  : am_CM mX12_draw 0 0 0 [.ref 322, .int (nI n)] (am_VV ad) r h (am_po (some (.int (nI (rf_dr (h 323) % n)))) r (am_row h 323 (rf_draw (h 323)))) := by
  refine am_CM.of (by decide +kernel) (Nat.le_of_ble_eq_true rfl) (fun X C T => ?_)
  show am_G X (am_VV ad) (0, 0) 0 [(0, .ref 322), (1, .int (nI n))] [] r h
  have hdr := rf_dr_n (h 323)
  have hd9 := hdr.2
  refine am_aload_n (pc := 0) C dX12_draw_0 rfl ?_
  refine am_getR (pc := 1) (j := 323) C dX12_draw_1 f12_13 bn_322 sh_322 (rf_322_1 hR) ?_
  refine am_bipush (pc := 4) (v := nI 10) C dX12_draw_4 (by decide) ?_
  refine am_ldci (pc := 6) (v := 1103515245) C dX12_draw_6 (am_mem 2181 (by decide +kernel) rfl) ?_
  refine am_aload_n (pc := 8) C dX12_draw_8 rfl ?_
  refine am_getR (pc := 9) (j := 323) C dX12_draw_9 f12_13 bn_322 sh_322 (rf_322_1 hR) ?_
  refine am_bipush (pc := 12) (v := nI 10) C dX12_draw_12 (by decide) ?_
  refine am_iaload (pc := 14) C dX12_draw_14 bn_323 sh_323 (vp_in_nI (by omega) (by decide)) ?_
  refine am_top (show (h 323) (nI 10).toNatClampNeg = (h 323) 10 from by rw [nI_clamp (by omega)]) ?_
  refine am_imul (pc := 15) C dX12_draw_15 ?_
  refine am_sipush (pc := 16) (v := nI 12345) C dX12_draw_16 (by decide) ?_
  refine am_iadd (pc := 19) C dX12_draw_19 ?_
  refine am_iastore (pc := 20) C dX12_draw_20 bn_323 sh_323 (vp_in_nI (by omega) (by decide)) ?_
  refine am_hp (show am_up h 323 (nI 10).toNatClampNeg ((1103515245 * ((h 323) 10)) + (nI 12345)) = am_row h 323 (upd (h 323) 10 ((1103515245 * ((h 323) 10)) + (nI 12345))) from by rw [nI_clamp (by omega)]; exact am_up_rw _ _ _ _) ?_
  refine am_aload_n (pc := 21) C dX12_draw_21 rfl ?_
  refine am_getR (pc := 22) (j := 323) C dX12_draw_22 f12_13 bn_322 sh_322 (rf_322_1 hR) ?_
  refine am_bipush (pc := 25) (v := nI 10) C dX12_draw_25 (by decide) ?_
  refine am_iaload (pc := 27) C dX12_draw_27 bn_323 sh_323 (vp_in_nI (by omega) (by decide)) ?_
  refine am_top (show (upd (h 323) 10 ((1103515245 * ((h 323) 10)) + (nI 12345))) (nI 10).toNatClampNeg = (upd (h 323) 10 ((1103515245 * ((h 323) 10)) + (nI 12345))) 10 from by rw [nI_clamp (by omega)]) ?_
  refine am_top (show ((upd (h 323) 10 ((1103515245 * ((h 323) 10)) + (nI 12345))) 10) = (rf_seed1 (h 323)) from rfl) ?_
  refine am_bipush (pc := 28) (v := nI 16) C dX12_draw_28 (by decide) ?_
  refine am_ishr (pc := 30) C dX12_draw_30 ?_
  refine am_sipush (pc := 31) (v := nI 32767) C dX12_draw_31 (by decide) ?_
  refine am_iand (pc := 34) C dX12_draw_34 ?_
  refine am_top (show (((rf_seed1 (h 323)) >>> ((nI 16) &&& 31)) &&& (nI 32767)) = (nI (rf_dr (h 323))) from hdr.1) ?_
  refine am_iload_n (pc := 35) C dX12_draw_35 rfl ?_
  refine am_iremN (pc := 36) C dX12_draw_36 (by omega) (by omega) (by omega) ?_
  exact am_ireti T dX12_draw_37 rfl (Nat.le_refl _) (Nat.le_refl _) rfl rfl rfl

set_option maxHeartbeats 400000 in
set_option maxRecDepth 100000 in
theorem c_X12_appends {ad : Nat → Nat} {r : am_R} (hR : am_rs r) {h : am_H} (s : Nat) (m : Nat) (hs : s < rf_S (h 323)) (hI : rf_Is (h 323) s) (hC : rf_Cn (h 323)) (hk2 : rf_kn (h 323) s < 12)  : am_CM mX12_appends 1 0 0 [.ref 322, .int (nI s), .int (nI m)] (am_VV ad) r h (am_po none r (am_row h 323 (rf_app (h 323) s m))) := by
  refine am_CM.of (by decide +kernel) (Nat.le_of_ble_eq_true rfl) (fun X C T => ?_)
  show am_G X (am_VV ad) (0, 0) 0 [(0, .ref 322), (1, .int (nI s)), (2, .int (nI m))] [] r h
  have hS9 : rf_S (h 323) < 11 := hC.2.1.2
  refine am_aload_n (pc := 0) C dX12_appends_0 rfl ?_
  refine am_iload_n (pc := 1) C dX12_appends_1 rfl ?_
  refine am_bipush (pc := 2) (v := nI 10) C dX12_appends_2 (by decide) ?_
  refine am_aload_n (pc := 4) C dX12_appends_4 rfl ?_
  refine am_iload_n (pc := 5) C dX12_appends_5 rfl ?_
  refine am_bipush (pc := 6) (v := nI 9) C dX12_appends_6 (by decide) ?_
  refine am_callVi (Y := mX12_of) (pc := 8) (st := [.int (nI 10), .int (nI s), .ref 322]) (As := [.int (nI s), .int (nI 9)]) (x := (rf_of (h 323) s 9)) (h2 := h) C dX12_appends_8 k12_63 v_X12_of rfl rfl bn_322 sh_322 ⟨by decide, rfl⟩ (by decide) (Nat.zero_le _) (Nat.zero_le _) (Nat.le_of_ble_eq_true rfl) (c_X12_of hR s 9 (show s < 11 from by omega) (show 9 < 23 from by omega)) ?_
  refine am_top (show (rf_of (h 323) s 9) = (nI (rf_kn (h 323) s)) from hI.2.2.2.2.1.1) ?_
  refine am_iaddN (pc := 11) C dX12_appends_11 ?_
  refine am_iload_n (pc := 12) C dX12_appends_12 rfl ?_
  refine am_callVv (Y := mX12_sets) (pc := 13) (st := []) (As := [.int (nI s), .int (nI (10 + (rf_kn (h 323) s))), .int (nI m)]) (h2 := (am_row h 323 (upd (h 323) (61 + 23 * s + (10 + (rf_kn (h 323) s))) (nI m)))) C dX12_appends_13 k12_148 v_X12_sets rfl rfl bn_322 sh_322 ⟨by decide, rfl⟩ (by decide) (Nat.zero_le _) (Nat.zero_le _) (Nat.le_of_ble_eq_true rfl) (c_X12_sets hR s (10 + (rf_kn (h 323) s)) (nI m) (show s < 11 from by omega) (show (10 + (rf_kn (h 323) s)) < 23 from by omega)) ?_
  refine am_aload_n (pc := 16) C dX12_appends_16 rfl ?_
  refine am_iload_n (pc := 17) C dX12_appends_17 rfl ?_
  refine am_bipush (pc := 18) (v := nI 9) C dX12_appends_18 (by decide) ?_
  refine am_aload_n (pc := 20) C dX12_appends_20 rfl ?_
  refine am_iload_n (pc := 21) C dX12_appends_21 rfl ?_
  refine am_bipush (pc := 22) (v := nI 9) C dX12_appends_22 (by decide) ?_
  refine am_callVi (Y := mX12_of) (pc := 24) (st := [.int (nI 9), .int (nI s), .ref 322]) (As := [.int (nI s), .int (nI 9)]) (x := (rf_of (upd (h 323) (61 + 23 * s + (10 + (rf_kn (h 323) s))) (nI m)) s 9)) (h2 := (am_row h 323 (upd (h 323) (61 + 23 * s + (10 + (rf_kn (h 323) s))) (nI m)))) C dX12_appends_24 k12_63 v_X12_of rfl rfl bn_322 sh_322 ⟨by decide, rfl⟩ (by decide) (Nat.zero_le _) (Nat.zero_le _) (Nat.le_of_ble_eq_true rfl) (c_X12_of hR s 9 (show s < 11 from by omega) (show 9 < 23 from by omega)) ?_
  refine am_top (show (rf_of (upd (h 323) (61 + 23 * s + (10 + (rf_kn (h 323) s))) (nI m)) s 9) = (nI (rf_kn (h 323) s)) from (by rw [rf_of_upd (by omega)]; exact hI.2.2.2.2.1.1)) ?_
  refine am_iconstN (pc := 27) (k := 1) C dX12_appends_27 ?_
  refine am_iaddN (pc := 28) C dX12_appends_28 ?_
  refine am_callVv (Y := mX12_sets) (pc := 29) (st := []) (As := [.int (nI s), .int (nI 9), .int (nI ((rf_kn (h 323) s) + 1))]) (h2 := (am_row (am_row h 323 (upd (h 323) (61 + 23 * s + (10 + (rf_kn (h 323) s))) (nI m))) 323 (upd (upd (h 323) (61 + 23 * s + (10 + (rf_kn (h 323) s))) (nI m)) (61 + 23 * s + 9) (nI ((rf_kn (h 323) s) + 1))))) C dX12_appends_29 k12_148 v_X12_sets rfl rfl bn_322 sh_322 ⟨by decide, rfl⟩ (by decide) (Nat.zero_le _) (Nat.zero_le _) (Nat.le_of_ble_eq_true rfl) (c_X12_sets hR s 9 (nI ((rf_kn (h 323) s) + 1)) (show s < 11 from by omega) (show 9 < 23 from by omega)) ?_
  refine am_hp (show (am_row (am_row h 323 (upd (h 323) (61 + 23 * s + (10 + (rf_kn (h 323) s))) (nI m))) 323 (upd (upd (h 323) (61 + 23 * s + (10 + (rf_kn (h 323) s))) (nI m)) (61 + 23 * s + 9) (nI ((rf_kn (h 323) s) + 1)))) = (am_row h 323 (upd (upd (h 323) (61 + 23 * s + (10 + (rf_kn (h 323) s))) (nI m)) (61 + 23 * s + 9) (nI ((rf_kn (h 323) s) + 1)))) from am_row_s0) ?_
  exact am_vretv T dX12_appends_32 rfl (Nat.le_refl _) (Nat.le_refl _) rfl rfl

set_option maxHeartbeats 400000 in
set_option maxRecDepth 100000 in
theorem c_X12_learns {ad : Nat → Nat} {r : am_R} (hR : am_rs r) {h : am_H} (s : Nat) (m : Nat) (hV : rf_I (h 323)) (hs : s < rf_S (h 323)) (hm : m < 16)  : am_CM mX12_learns 5 0 0 [.ref 322, .int (nI s), .int (nI m)] (am_VV ad) r h (am_po (some (.int (am_b (rf_can (h 323) s m)))) r (am_row h 323 (rf_learn (h 323) s m))) := by
  refine am_CM.of (by decide +kernel) (Nat.le_of_ble_eq_true rfl) (fun X C T => ?_)
  show am_G X (am_VV ad) (0, 0) 0 [(0, .ref 322), (1, .int (nI s)), (2, .int (nI m))] [] r h
  have hM9 : rf_M (h 323) < 17 := hV.1.1.2
  have hS9 : rf_S (h 323) < 11 := hV.1.2.1.2
  have hO9 : rf_O (h 323) < 11 := hV.1.2.2.2
  refine am_aload_n (pc := 0) C dX12_learns_0 rfl ?_
  refine am_iload_n (pc := 1) C dX12_learns_1 rfl ?_
  refine am_iload_n (pc := 2) C dX12_learns_2 rfl ?_
  refine am_callVi (Y := mX12_canLearn) (pc := 3) (st := []) (As := [.int (nI s), .int (nI m)]) (x := (am_b (rf_can (h 323) s m))) (h2 := h) C dX12_learns_3 k12_363 v_X12_canLearn rfl rfl bn_322 sh_322 ⟨by decide, rfl⟩ (by decide) (Nat.zero_le _) (Nat.zero_le _) (Nat.le_of_ble_eq_true rfl) (c_X12_canLearn hR s m hV hs hm) ?_
  refine am_if_neB (pc := 6) (tgt := 11) C dX12_learns_6 (by decide) (fun q6 => ?_) (fun q6 => ?_)
  · skip
    have hcan := q6
    simp only [rf_can, Bool.and_eq_true, decide_eq_true_eq] at hcan
    refine am_aload_n (pc := 11) C dX12_learns_11 rfl ?_
    refine am_iload_n (pc := 12) C dX12_learns_12 rfl ?_
    refine am_iload_n (pc := 13) C dX12_learns_13 rfl ?_
    refine am_callVv (Y := mX12_appends) (pc := 14) (st := []) (As := [.int (nI s), .int (nI m)]) (h2 := (am_row h 323 (rf_app (h 323) s m))) C dX12_learns_14 k12_155 v_X12_appends rfl rfl bn_322 sh_322 ⟨by decide, rfl⟩ (by decide) (Nat.zero_le _) (Nat.zero_le _) (Nat.le_of_ble_eq_true rfl) (c_X12_appends hR s m hs (show rf_Is (h 323) s from (hV.2.1 s (by omega))) (show rf_Cn (h 323) from hV.1) (show rf_kn (h 323) s < 12 from by omega)) ?_
    refine am_aload_n (pc := 17) C dX12_learns_17 rfl ?_
    refine am_getR (pc := 18) (j := 323) C dX12_learns_18 f12_13 bn_322 sh_322 (rf_322_1 hR) ?_
    refine am_bipush (pc := 21) (v := nI 8) C dX12_learns_21 (by decide) ?_
    refine am_dup2 (pc := 23) C dX12_learns_23 rfl rfl ?_
    refine am_iaload (pc := 24) C dX12_learns_24 bn_323 sh_323 (vp_in_nI (by omega) (by decide)) ?_
    refine am_top (show (rf_app (h 323) s m) (nI 8).toNatClampNeg = (rf_app (h 323) s m) 8 from by rw [nI_clamp (by omega)]) ?_
    refine am_iconstN (pc := 25) (k := 1) C dX12_learns_25 ?_
    refine am_iadd (pc := 26) C dX12_learns_26 ?_
    refine am_iastore (pc := 27) C dX12_learns_27 bn_323 sh_323 (vp_in_nI (by omega) (by decide)) ?_
    refine am_hp (show am_up (am_row h 323 (rf_app (h 323) s m)) 323 (nI 8).toNatClampNeg (((rf_app (h 323) s m) 8) + (nI 1)) = am_row (am_row h 323 (rf_app (h 323) s m)) 323 (upd (rf_app (h 323) s m) 8 (((rf_app (h 323) s m) 8) + (nI 1))) from by rw [nI_clamp (by omega)]; exact am_up_rw _ _ _ _) ?_
    refine am_hp (show am_row (am_row h 323 (rf_app (h 323) s m)) 323 (upd (rf_app (h 323) s m) 8 (((rf_app (h 323) s m) 8) + (nI 1))) = (am_row h 323 (upd (rf_app (h 323) s m) 8 (((rf_app (h 323) s m) 8) + (nI 1)))) from am_row_s0) ?_
    refine am_iconstN (pc := 28) (k := 1) C dX12_learns_28 ?_
    exact am_iretb T dX12_learns_29 rfl (Nat.le_refl _) (Nat.le_refl _) (by rw [q6]; rfl) rfl (by rw [rf_learn, q6]; first | rfl | exact (am_row_id _ _).symm)
  · skip
    refine am_iconstN (pc := 9) (k := 0) C dX12_learns_9 ?_
    exact am_iretb T dX12_learns_10 rfl (Nat.le_refl _) (Nat.le_refl _) (by rw [q6]; rfl) rfl (by rw [rf_learn, q6]; first | rfl | exact (am_row_id _ _).symm)

set_option maxHeartbeats 400000 in
set_option maxRecDepth 100000 in
theorem c_X12_loses {ad : Nat → Nat} {r : am_R} (hR : am_rs r) {h : am_H} (s : Nat) (m : Nat) (hV : rf_I (h 323)) (hs : s < rf_S (h 323)) (hw : ∃ q, q < rf_kn (h 323) s ∧ rf_of (h 323) s (10 + q) = nI m)  : am_CM mX12_loses 1 0 0 [.ref 322, .int (nI s), .int (nI m)] (am_VV ad) r h (am_po none r (am_row h 323 (rf_lose (h 323) s m))) := by
  refine am_CM.of (by decide +kernel) (Nat.le_of_ble_eq_true rfl) (fun X C T => ?_)
  show am_G X (am_VV ad) (0, 0) 0 [(0, .ref 322), (1, .int (nI s)), (2, .int (nI m))] [] r h
  have hM9 : rf_M (h 323) < 17 := hV.1.1.2
  have hS9 : rf_S (h 323) < 11 := hV.1.2.1.2
  have hO9 : rf_O (h 323) < 11 := hV.1.2.2.2
  have hI := hV.2.1 s hs
  have hk9 : rf_kn (h 323) s < 13 := hI.2.2.2.2.1.2
  have hP9 : rf_pos (h 323) s m < rf_kn (h 323) s := by
    obtain ⟨q, h1, h2⟩ := hw
    have := (rf_fp_spec (fun k => decide (rf_of (h 323) s (10 + k) = nI m)) (rf_kn (h 323) s) 0 ⟨q, by omega, by omega, decide_eq_true h2⟩).2.1
    rw [rf_pos]
    omega
  refine am_iconstN (pc := 0) (k := 0) C dX12_loses_0 ?_
  refine am_istore_n (pc := 1) (ls' := [(0, .ref 322), (1, .int (nI s)), (2, .int (nI m)), (3, .int (nI 0))]) C dX12_loses_1 (by decide) rfl ?_
  have L2 : ∀ (j2 : Nat) (k : Nat), (hkj : k + j2 = rf_kn (h 323) s) → (hp : rf_fp (fun k => decide (rf_of (h 323) s (10 + k) = nI m)) j2 k = rf_pos (h 323) s m) → (hw2 : ∃ q, k ≤ q ∧ q < rf_kn (h 323) s ∧ rf_of (h 323) s (10 + q) = nI m) → am_G X (am_VV ad) (0, 0) 2 [(0, .ref 322), (1, .int (nI s)), (2, .int (nI m)), (3, .int (nI k))] [] r h := by
    intro j2
    induction j2 with
    | zero =>
      intro k hkj hp hw2
      obtain ⟨q, h1, h2, h3⟩ := hw2
      exact absurd h1 (by omega)
    | succ j2 ih2 =>
      intro k hkj hp hw2
      refine am_aload_n (pc := 2) C dX12_loses_2 rfl ?_
      refine am_iload_n (pc := 3) C dX12_loses_3 rfl ?_
      refine am_bipush (pc := 4) (v := nI 10) C dX12_loses_4 (by decide) ?_
      refine am_iload_n (pc := 6) C dX12_loses_6 rfl ?_
      refine am_iaddN (pc := 7) C dX12_loses_7 ?_
      refine am_callVi (Y := mX12_of) (pc := 8) (st := []) (As := [.int (nI s), .int (nI (10 + k))]) (x := (rf_of (h 323) s (10 + k))) (h2 := h) C dX12_loses_8 k12_63 v_X12_of rfl rfl bn_322 sh_322 ⟨by decide, rfl⟩ (by decide) (Nat.zero_le _) (Nat.zero_le _) (Nat.le_of_ble_eq_true rfl) (c_X12_of hR s (10 + k) (show s < 11 from by omega) (show (10 + k) < 23 from by omega)) ?_
      refine am_iload_n (pc := 11) C dX12_loses_11 rfl ?_
      refine am_icmp_eq (pc := 12) (tgt := 21) C dX12_loses_12 (by decide) (fun q12 => ?_) (fun q12 => ?_)
      · skip
        have hPk : k = rf_pos (h 323) s m := by rw [← hp, rf_fp, if_pos (by simpa using q12)]
        refine am_lsv (ls' := [(0, .ref 322), (1, .int (nI s)), (2, .int (nI m)), (3, .int (nI (rf_pos (h 323) s m)))]) (by rw [show (nI k) = (nI (rf_pos (h 323) s m)) from congrArg nI hPk]) ?_
        have L21 : ∀ (j21 i21 : Nat), i21 + j21 = rf_kn (h 323) s - 1 → (hiP : rf_pos (h 323) s m ≤ i21) → am_G X (am_VV ad) (0, 0) 21 [(0, .ref 322), (1, .int (nI s)), (2, .int (nI m)), (3, .int (nI i21))] [] r (am_row h 323 (rf_cp (h 323) (h 323) (71 + 23 * s + rf_pos (h 323) s m) (72 + 23 * s + rf_pos (h 323) s m) (i21 - rf_pos (h 323) s m))) := by
          intro j21
          induction j21 with
          | zero =>
            intro i21 hi21 hiP
            have hz21 : i21 = rf_kn (h 323) s - 1 := by omega
            refine am_iload_n (pc := 21) C dX12_loses_21 rfl ?_
            refine am_iconstN (pc := 22) (k := 1) C dX12_loses_22 ?_
            refine am_iaddN (pc := 23) C dX12_loses_23 ?_
            refine am_aload_n (pc := 24) C dX12_loses_24 rfl ?_
            refine am_iload_n (pc := 25) C dX12_loses_25 rfl ?_
            refine am_bipush (pc := 26) (v := nI 9) C dX12_loses_26 (by decide) ?_
            refine am_callVi (Y := mX12_of) (pc := 28) (st := [.int (nI (i21 + 1))]) (As := [.int (nI s), .int (nI 9)]) (x := (rf_of (rf_cp (h 323) (h 323) (71 + 23 * s + rf_pos (h 323) s m) (72 + 23 * s + rf_pos (h 323) s m) (i21 - rf_pos (h 323) s m)) s 9)) (h2 := (am_row h 323 (rf_cp (h 323) (h 323) (71 + 23 * s + rf_pos (h 323) s m) (72 + 23 * s + rf_pos (h 323) s m) (i21 - rf_pos (h 323) s m)))) C dX12_loses_28 k12_63 v_X12_of rfl rfl bn_322 sh_322 ⟨by decide, rfl⟩ (by decide) (Nat.zero_le _) (Nat.zero_le _) (Nat.le_of_ble_eq_true rfl) (c_X12_of hR s 9 (show s < 11 from by omega) (show 9 < 23 from by omega)) ?_
            refine am_top (show (rf_of (rf_cp (h 323) (h 323) (71 + 23 * s + rf_pos (h 323) s m) (72 + 23 * s + rf_pos (h 323) s m) (i21 - rf_pos (h 323) s m)) s 9) = (nI (rf_kn (h 323) s)) from (show rf_cp (h 323) (h 323) _ _ _ (61 + 23 * s + 9) = nI (rf_kn (h 323) s) from by rw [rf_cp_out (by omega)]; exact hI.2.2.2.2.1.1)) ?_
            refine am_icmp_geN (pc := 31) (tgt := 60) C dX12_loses_31 (by decide) (by omega) (by omega) (fun q31 => ?_) (fun q31 => ?_)
            · skip
              refine am_aload_n (pc := 60) C dX12_loses_60 rfl ?_
              refine am_iload_n (pc := 61) C dX12_loses_61 rfl ?_
              refine am_bipush (pc := 62) (v := nI 9) C dX12_loses_62 (by decide) ?_
              refine am_aload_n (pc := 64) C dX12_loses_64 rfl ?_
              refine am_iload_n (pc := 65) C dX12_loses_65 rfl ?_
              refine am_bipush (pc := 66) (v := nI 9) C dX12_loses_66 (by decide) ?_
              refine am_callVi (Y := mX12_of) (pc := 68) (st := [.int (nI 9), .int (nI s), .ref 322]) (As := [.int (nI s), .int (nI 9)]) (x := (rf_of (rf_cp (h 323) (h 323) (71 + 23 * s + rf_pos (h 323) s m) (72 + 23 * s + rf_pos (h 323) s m) (i21 - rf_pos (h 323) s m)) s 9)) (h2 := (am_row h 323 (rf_cp (h 323) (h 323) (71 + 23 * s + rf_pos (h 323) s m) (72 + 23 * s + rf_pos (h 323) s m) (i21 - rf_pos (h 323) s m)))) C dX12_loses_68 k12_63 v_X12_of rfl rfl bn_322 sh_322 ⟨by decide, rfl⟩ (by decide) (Nat.zero_le _) (Nat.zero_le _) (Nat.le_of_ble_eq_true rfl) (c_X12_of hR s 9 (show s < 11 from by omega) (show 9 < 23 from by omega)) ?_
              refine am_top (show (rf_of (rf_cp (h 323) (h 323) (71 + 23 * s + rf_pos (h 323) s m) (72 + 23 * s + rf_pos (h 323) s m) (i21 - rf_pos (h 323) s m)) s 9) = (nI (rf_kn (h 323) s)) from (show rf_cp (h 323) (h 323) _ _ _ (61 + 23 * s + 9) = nI (rf_kn (h 323) s) from by rw [rf_cp_out (by omega)]; exact hI.2.2.2.2.1.1)) ?_
              refine am_iconstN (pc := 71) (k := 1) C dX12_loses_71 ?_
              refine am_isubN (pc := 72) C dX12_loses_72 (by omega) ?_
              refine am_callVv (Y := mX12_sets) (pc := 73) (st := []) (As := [.int (nI s), .int (nI 9), .int (nI ((rf_kn (h 323) s) - 1))]) (h2 := (am_row (am_row h 323 (rf_cp (h 323) (h 323) (71 + 23 * s + rf_pos (h 323) s m) (72 + 23 * s + rf_pos (h 323) s m) (i21 - rf_pos (h 323) s m))) 323 (upd (rf_cp (h 323) (h 323) (71 + 23 * s + rf_pos (h 323) s m) (72 + 23 * s + rf_pos (h 323) s m) (i21 - rf_pos (h 323) s m)) (61 + 23 * s + 9) (nI ((rf_kn (h 323) s) - 1))))) C dX12_loses_73 k12_148 v_X12_sets rfl rfl bn_322 sh_322 ⟨by decide, rfl⟩ (by decide) (Nat.zero_le _) (Nat.zero_le _) (Nat.le_of_ble_eq_true rfl) (c_X12_sets hR s 9 (nI ((rf_kn (h 323) s) - 1)) (show s < 11 from by omega) (show 9 < 23 from by omega)) ?_
              refine am_hp (show (am_row (am_row h 323 (rf_cp (h 323) (h 323) (71 + 23 * s + rf_pos (h 323) s m) (72 + 23 * s + rf_pos (h 323) s m) (i21 - rf_pos (h 323) s m))) 323 (upd (rf_cp (h 323) (h 323) (71 + 23 * s + rf_pos (h 323) s m) (72 + 23 * s + rf_pos (h 323) s m) (i21 - rf_pos (h 323) s m)) (61 + 23 * s + 9) (nI ((rf_kn (h 323) s) - 1)))) = (am_row h 323 (upd (rf_cp (h 323) (h 323) (71 + 23 * s + rf_pos (h 323) s m) (72 + 23 * s + rf_pos (h 323) s m) (i21 - rf_pos (h 323) s m)) (61 + 23 * s + 9) (nI ((rf_kn (h 323) s) - 1)))) from am_row_s0) ?_
              exact am_vretv T dX12_loses_76 rfl (Nat.le_refl _) (Nat.le_refl _) rfl (by rw [rf_lose, hz21])
            · skip
              exact absurd q31 (by omega)
          | succ j21 ih21 =>
            intro i21 hi21 hiP
            have hl21 : i21 < rf_kn (h 323) s - 1 := by omega
            refine am_iload_n (pc := 21) C dX12_loses_21 rfl ?_
            refine am_iconstN (pc := 22) (k := 1) C dX12_loses_22 ?_
            refine am_iaddN (pc := 23) C dX12_loses_23 ?_
            refine am_aload_n (pc := 24) C dX12_loses_24 rfl ?_
            refine am_iload_n (pc := 25) C dX12_loses_25 rfl ?_
            refine am_bipush (pc := 26) (v := nI 9) C dX12_loses_26 (by decide) ?_
            refine am_callVi (Y := mX12_of) (pc := 28) (st := [.int (nI (i21 + 1))]) (As := [.int (nI s), .int (nI 9)]) (x := (rf_of (rf_cp (h 323) (h 323) (71 + 23 * s + rf_pos (h 323) s m) (72 + 23 * s + rf_pos (h 323) s m) (i21 - rf_pos (h 323) s m)) s 9)) (h2 := (am_row h 323 (rf_cp (h 323) (h 323) (71 + 23 * s + rf_pos (h 323) s m) (72 + 23 * s + rf_pos (h 323) s m) (i21 - rf_pos (h 323) s m)))) C dX12_loses_28 k12_63 v_X12_of rfl rfl bn_322 sh_322 ⟨by decide, rfl⟩ (by decide) (Nat.zero_le _) (Nat.zero_le _) (Nat.le_of_ble_eq_true rfl) (c_X12_of hR s 9 (show s < 11 from by omega) (show 9 < 23 from by omega)) ?_
            refine am_top (show (rf_of (rf_cp (h 323) (h 323) (71 + 23 * s + rf_pos (h 323) s m) (72 + 23 * s + rf_pos (h 323) s m) (i21 - rf_pos (h 323) s m)) s 9) = (nI (rf_kn (h 323) s)) from (show rf_cp (h 323) (h 323) _ _ _ (61 + 23 * s + 9) = nI (rf_kn (h 323) s) from by rw [rf_cp_out (by omega)]; exact hI.2.2.2.2.1.1)) ?_
            refine am_icmp_geN (pc := 31) (tgt := 60) C dX12_loses_31 (by decide) (by omega) (by omega) (fun q31 => ?_) (fun q31 => ?_)
            · skip
              exact absurd q31 (by omega)
            · skip
              refine am_aload_n (pc := 34) C dX12_loses_34 rfl ?_
              refine am_iload_n (pc := 35) C dX12_loses_35 rfl ?_
              refine am_bipush (pc := 36) (v := nI 10) C dX12_loses_36 (by decide) ?_
              refine am_iload_n (pc := 38) C dX12_loses_38 rfl ?_
              refine am_iaddN (pc := 39) C dX12_loses_39 ?_
              refine am_aload_n (pc := 40) C dX12_loses_40 rfl ?_
              refine am_iload_n (pc := 41) C dX12_loses_41 rfl ?_
              refine am_bipush (pc := 42) (v := nI 10) C dX12_loses_42 (by decide) ?_
              refine am_iload_n (pc := 44) C dX12_loses_44 rfl ?_
              refine am_iaddN (pc := 45) C dX12_loses_45 ?_
              refine am_iconstN (pc := 46) (k := 1) C dX12_loses_46 ?_
              refine am_iaddN (pc := 47) C dX12_loses_47 ?_
              refine am_callVi (Y := mX12_of) (pc := 48) (st := [.int (nI (10 + i21)), .int (nI s), .ref 322]) (As := [.int (nI s), .int (nI ((10 + i21) + 1))]) (x := (rf_of (rf_cp (h 323) (h 323) (71 + 23 * s + rf_pos (h 323) s m) (72 + 23 * s + rf_pos (h 323) s m) (i21 - rf_pos (h 323) s m)) s ((10 + i21) + 1))) (h2 := (am_row h 323 (rf_cp (h 323) (h 323) (71 + 23 * s + rf_pos (h 323) s m) (72 + 23 * s + rf_pos (h 323) s m) (i21 - rf_pos (h 323) s m)))) C dX12_loses_48 k12_63 v_X12_of rfl rfl bn_322 sh_322 ⟨by decide, rfl⟩ (by decide) (Nat.zero_le _) (Nat.zero_le _) (Nat.le_of_ble_eq_true rfl) (c_X12_of hR s ((10 + i21) + 1) (show s < 11 from by omega) (show ((10 + i21) + 1) < 23 from by omega)) ?_
              refine am_callVv (Y := mX12_sets) (pc := 51) (st := []) (As := [.int (nI s), .int (nI (10 + i21)), .int (rf_of (rf_cp (h 323) (h 323) (71 + 23 * s + rf_pos (h 323) s m) (72 + 23 * s + rf_pos (h 323) s m) (i21 - rf_pos (h 323) s m)) s ((10 + i21) + 1))]) (h2 := (am_row (am_row h 323 (rf_cp (h 323) (h 323) (71 + 23 * s + rf_pos (h 323) s m) (72 + 23 * s + rf_pos (h 323) s m) (i21 - rf_pos (h 323) s m))) 323 (upd (rf_cp (h 323) (h 323) (71 + 23 * s + rf_pos (h 323) s m) (72 + 23 * s + rf_pos (h 323) s m) (i21 - rf_pos (h 323) s m)) (61 + 23 * s + (10 + i21)) (rf_of (rf_cp (h 323) (h 323) (71 + 23 * s + rf_pos (h 323) s m) (72 + 23 * s + rf_pos (h 323) s m) (i21 - rf_pos (h 323) s m)) s ((10 + i21) + 1))))) C dX12_loses_51 k12_148 v_X12_sets rfl rfl bn_322 sh_322 ⟨by decide, rfl⟩ (by decide) (Nat.zero_le _) (Nat.zero_le _) (Nat.le_of_ble_eq_true rfl) (c_X12_sets hR s (10 + i21) (rf_of (rf_cp (h 323) (h 323) (71 + 23 * s + rf_pos (h 323) s m) (72 + 23 * s + rf_pos (h 323) s m) (i21 - rf_pos (h 323) s m)) s ((10 + i21) + 1)) (show s < 11 from by omega) (show (10 + i21) < 23 from by omega)) ?_
              refine am_hp (show (am_row (am_row h 323 (rf_cp (h 323) (h 323) (71 + 23 * s + rf_pos (h 323) s m) (72 + 23 * s + rf_pos (h 323) s m) (i21 - rf_pos (h 323) s m))) 323 (upd (rf_cp (h 323) (h 323) (71 + 23 * s + rf_pos (h 323) s m) (72 + 23 * s + rf_pos (h 323) s m) (i21 - rf_pos (h 323) s m)) (61 + 23 * s + (10 + i21)) (rf_of (rf_cp (h 323) (h 323) (71 + 23 * s + rf_pos (h 323) s m) (72 + 23 * s + rf_pos (h 323) s m) (i21 - rf_pos (h 323) s m)) s ((10 + i21) + 1)))) = (am_row h 323 (upd (rf_cp (h 323) (h 323) (71 + 23 * s + rf_pos (h 323) s m) (72 + 23 * s + rf_pos (h 323) s m) (i21 - rf_pos (h 323) s m)) (61 + 23 * s + (10 + i21)) (rf_of (rf_cp (h 323) (h 323) (71 + 23 * s + rf_pos (h 323) s m) (72 + 23 * s + rf_pos (h 323) s m) (i21 - rf_pos (h 323) s m)) s ((10 + i21) + 1)))) from am_row_s0) ?_
              refine am_iincN (pc := 54) (ls' := [(0, .ref 322), (1, .int (nI s)), (2, .int (nI m)), (3, .int (nI (i21 + 1)))]) C dX12_loses_54 rfl (am_up1 _) (by decide) rfl ?_
              refine am_goto (pc := 57) (tgt := 21) C dX12_loses_57 (by decide) ?_
              refine am_hp (show (am_row h 323 (upd (rf_cp (h 323) (h 323) (71 + 23 * s + rf_pos (h 323) s m) (72 + 23 * s + rf_pos (h 323) s m) (i21 - rf_pos (h 323) s m)) (61 + 23 * s + (10 + i21)) (rf_of (rf_cp (h 323) (h 323) (71 + 23 * s + rf_pos (h 323) s m) (72 + 23 * s + rf_pos (h 323) s m) (i21 - rf_pos (h 323) s m)) s ((10 + i21) + 1)))) = (am_row h 323 (rf_cp (h 323) (h 323) (71 + 23 * s + rf_pos (h 323) s m) (72 + 23 * s + rf_pos (h 323) s m) ((i21 + 1) - rf_pos (h 323) s m))) from congrArg (am_row h 323) (rf_cp_s (by omega) (by show rf_cp _ _ _ _ _ (61 + 23 * s + (10 + i21 + 1)) = _; rw [rf_cp_out (by omega)]; congr 1; omega) (by omega))) ?_
              exact ih21 (i21 + 1) (by omega) (by omega)
        refine am_hp (show h = (am_row h 323 (rf_cp (h 323) (h 323) (71 + 23 * s + rf_pos (h 323) s m) (72 + 23 * s + rf_pos (h 323) s m) ((rf_pos (h 323) s m) - rf_pos (h 323) s m))) from (by rw [Nat.sub_self, rf_cp_0]; exact (am_row_id _ _).symm)) ?_
        exact L21 (rf_kn (h 323) s - 1 - (rf_pos (h 323) s m)) (rf_pos (h 323) s m) (by omega) (by omega)
      · skip
        refine am_iincN (pc := 15) (ls' := [(0, .ref 322), (1, .int (nI s)), (2, .int (nI m)), (3, .int (nI (k + 1)))]) C dX12_loses_15 rfl (am_up1 _) (by decide) rfl ?_
        refine am_goto (pc := 18) (tgt := 2) C dX12_loses_18 (by decide) ?_
        exact ih2 (k + 1) (by omega) (by rw [← hp, rf_fp, if_neg (by simpa using q12)]) (by
        obtain ⟨q, h1, h2, h3⟩ := hw2
        refine ⟨q, ?_, h2, h3⟩
        rcases Nat.lt_or_ge k q with z | z
        · exact z
        · exact absurd (by rw [show k = q by omega]; exact h3) q12)
  exact L2 (rf_kn (h 323) s) 0 (by omega) rfl (by obtain ⟨q, h1, h2⟩ := hw; exact ⟨q, by omega, h1, h2⟩)

set_option maxHeartbeats 400000 in
set_option maxRecDepth 100000 in
theorem c_X12_removes {ad : Nat → Nat} {r : am_R} (hR : am_rs r) {h : am_H} (k : Nat) (hF0 : rf_n ((h 323) 6) 41) (hk : k < rf_F (h 323))  : am_CM mX12_removes 0 0 0 [.ref 322, .int (nI k)] (am_VV ad) r h (am_po none r (am_row h 323 (rf_remove (h 323) k))) := by
  refine am_CM.of (by decide +kernel) (Nat.le_of_ble_eq_true rfl) (fun X C T => ?_)
  show am_G X (am_VV ad) (0, 0) 0 [(0, .ref 322), (1, .int (nI k))] [] r h
  have hF9 : rf_F (h 323) < 41 := hF0.2
  have hF : h 323 6 = nI (rf_F (h 323)) := hF0.1
  refine am_iconstN (pc := 0) (k := 3) C dX12_removes_0 ?_
  refine am_iload_n (pc := 1) C dX12_removes_1 rfl ?_
  refine am_imulN (pc := 2) C dX12_removes_2 ?_
  refine am_istore_n (pc := 3) (ls' := [(0, .ref 322), (1, .int (nI k)), (2, .int (nI (3 * k)))]) C dX12_removes_3 (by decide) rfl ?_
  have L4 : ∀ (j4 i4 : Nat), i4 + j4 = 3 * (rf_F (h 323) - 1 - k) → am_G X (am_VV ad) (0, 0) 4 [(0, .ref 322), (1, .int (nI k)), (2, .int (nI (3 * k + i4)))] [] r (am_row h 323 (rf_cp (h 323) (h 323) (311 + 3 * k) (314 + 3 * k) i4)) := by
    intro j4
    induction j4 with
    | zero =>
      intro i4 hi4 
      obtain rfl : i4 = 3 * (rf_F (h 323) - 1 - k) := by omega
      refine am_iload_n (pc := 4) C dX12_removes_4 rfl ?_
      refine am_iconstN (pc := 5) (k := 3) C dX12_removes_5 ?_
      refine am_iaddN (pc := 6) C dX12_removes_6 ?_
      refine am_iconstN (pc := 7) (k := 3) C dX12_removes_7 ?_
      refine am_aload_n (pc := 8) C dX12_removes_8 rfl ?_
      refine am_getR (pc := 9) (j := 323) C dX12_removes_9 f12_13 bn_322 sh_322 (rf_322_1 hR) ?_
      refine am_bipush (pc := 12) (v := nI 6) C dX12_removes_12 (by decide) ?_
      refine am_iaload (pc := 14) C dX12_removes_14 bn_323 sh_323 (vp_in_nI (by omega) (by decide)) ?_
      refine am_top (show (rf_cp (h 323) (h 323) (311 + 3 * k) (314 + 3 * k) (3 * (rf_F (h 323) - 1 - k))) (nI 6).toNatClampNeg = (rf_cp (h 323) (h 323) (311 + 3 * k) (314 + 3 * k) (3 * (rf_F (h 323) - 1 - k))) 6 from by rw [nI_clamp (by omega)]) ?_
      refine am_top (show ((rf_cp (h 323) (h 323) (311 + 3 * k) (314 + 3 * k) (3 * (rf_F (h 323) - 1 - k))) 6) = (nI (rf_F (h 323))) from (by rw [rf_cp_out (by omega)]; exact hF)) ?_
      refine am_imulN (pc := 15) C dX12_removes_15 ?_
      refine am_icmp_geN (pc := 16) (tgt := 47) C dX12_removes_16 (by decide) (by omega) (by omega) (fun q16 => ?_) (fun q16 => ?_)
      · skip
        refine am_aload_n (pc := 47) C dX12_removes_47 rfl ?_
        refine am_getR (pc := 48) (j := 323) C dX12_removes_48 f12_13 bn_322 sh_322 (rf_322_1 hR) ?_
        refine am_bipush (pc := 51) (v := nI 6) C dX12_removes_51 (by decide) ?_
        refine am_dup2 (pc := 53) C dX12_removes_53 rfl rfl ?_
        refine am_iaload (pc := 54) C dX12_removes_54 bn_323 sh_323 (vp_in_nI (by omega) (by decide)) ?_
        refine am_top (show (rf_cp (h 323) (h 323) (311 + 3 * k) (314 + 3 * k) (3 * (rf_F (h 323) - 1 - k))) (nI 6).toNatClampNeg = (rf_cp (h 323) (h 323) (311 + 3 * k) (314 + 3 * k) (3 * (rf_F (h 323) - 1 - k))) 6 from by rw [nI_clamp (by omega)]) ?_
        refine am_top (show ((rf_cp (h 323) (h 323) (311 + 3 * k) (314 + 3 * k) (3 * (rf_F (h 323) - 1 - k))) 6) = (nI (rf_F (h 323))) from (by rw [rf_cp_out (by omega)]; exact hF)) ?_
        refine am_iconstN (pc := 55) (k := 1) C dX12_removes_55 ?_
        refine am_isubN (pc := 56) C dX12_removes_56 (by omega) ?_
        refine am_iastore (pc := 57) C dX12_removes_57 bn_323 sh_323 (vp_in_nI (by omega) (by decide)) ?_
        refine am_hp (show am_up (am_row h 323 (rf_cp (h 323) (h 323) (311 + 3 * k) (314 + 3 * k) (3 * (rf_F (h 323) - 1 - k)))) 323 (nI 6).toNatClampNeg (nI ((rf_F (h 323)) - 1)) = am_row (am_row h 323 (rf_cp (h 323) (h 323) (311 + 3 * k) (314 + 3 * k) (3 * (rf_F (h 323) - 1 - k)))) 323 (upd (rf_cp (h 323) (h 323) (311 + 3 * k) (314 + 3 * k) (3 * (rf_F (h 323) - 1 - k))) 6 (nI ((rf_F (h 323)) - 1))) from by rw [nI_clamp (by omega)]; exact am_up_rw _ _ _ _) ?_
        refine am_hp (show am_row (am_row h 323 (rf_cp (h 323) (h 323) (311 + 3 * k) (314 + 3 * k) (3 * (rf_F (h 323) - 1 - k)))) 323 (upd (rf_cp (h 323) (h 323) (311 + 3 * k) (314 + 3 * k) (3 * (rf_F (h 323) - 1 - k))) 6 (nI ((rf_F (h 323)) - 1))) = (am_row h 323 (upd (rf_cp (h 323) (h 323) (311 + 3 * k) (314 + 3 * k) (3 * (rf_F (h 323) - 1 - k))) 6 (nI ((rf_F (h 323)) - 1)))) from am_row_s0) ?_
        exact am_vretv T dX12_removes_58 rfl (Nat.le_refl _) (Nat.le_refl _) rfl rfl
      · skip
        exact absurd q16 (by omega)
    | succ j4 ih4 =>
      intro i4 hi4 
      have hl4 : i4 < 3 * (rf_F (h 323) - 1 - k) := by omega
      refine am_iload_n (pc := 4) C dX12_removes_4 rfl ?_
      refine am_iconstN (pc := 5) (k := 3) C dX12_removes_5 ?_
      refine am_iaddN (pc := 6) C dX12_removes_6 ?_
      refine am_iconstN (pc := 7) (k := 3) C dX12_removes_7 ?_
      refine am_aload_n (pc := 8) C dX12_removes_8 rfl ?_
      refine am_getR (pc := 9) (j := 323) C dX12_removes_9 f12_13 bn_322 sh_322 (rf_322_1 hR) ?_
      refine am_bipush (pc := 12) (v := nI 6) C dX12_removes_12 (by decide) ?_
      refine am_iaload (pc := 14) C dX12_removes_14 bn_323 sh_323 (vp_in_nI (by omega) (by decide)) ?_
      refine am_top (show (rf_cp (h 323) (h 323) (311 + 3 * k) (314 + 3 * k) i4) (nI 6).toNatClampNeg = (rf_cp (h 323) (h 323) (311 + 3 * k) (314 + 3 * k) i4) 6 from by rw [nI_clamp (by omega)]) ?_
      refine am_top (show ((rf_cp (h 323) (h 323) (311 + 3 * k) (314 + 3 * k) i4) 6) = (nI (rf_F (h 323))) from (by rw [rf_cp_out (by omega)]; exact hF)) ?_
      refine am_imulN (pc := 15) C dX12_removes_15 ?_
      refine am_icmp_geN (pc := 16) (tgt := 47) C dX12_removes_16 (by decide) (by omega) (by omega) (fun q16 => ?_) (fun q16 => ?_)
      · skip
        exact absurd q16 (by omega)
      · skip
        refine am_aload_n (pc := 19) C dX12_removes_19 rfl ?_
        refine am_getR (pc := 20) (j := 323) C dX12_removes_20 f12_13 bn_322 sh_322 (rf_322_1 hR) ?_
        refine am_sipush (pc := 23) (v := nI 311) C dX12_removes_23 (by decide) ?_
        refine am_iload_n (pc := 26) C dX12_removes_26 rfl ?_
        refine am_iaddN (pc := 27) C dX12_removes_27 ?_
        refine am_aload_n (pc := 28) C dX12_removes_28 rfl ?_
        refine am_getR (pc := 29) (j := 323) C dX12_removes_29 f12_13 bn_322 sh_322 (rf_322_1 hR) ?_
        refine am_sipush (pc := 32) (v := nI 311) C dX12_removes_32 (by decide) ?_
        refine am_iload_n (pc := 35) C dX12_removes_35 rfl ?_
        refine am_iaddN (pc := 36) C dX12_removes_36 ?_
        refine am_iconstN (pc := 37) (k := 3) C dX12_removes_37 ?_
        refine am_iaddN (pc := 38) C dX12_removes_38 ?_
        refine am_iaload (pc := 39) C dX12_removes_39 bn_323 sh_323 (vp_in_nI (by omega) (by decide)) ?_
        refine am_top (show (rf_cp (h 323) (h 323) (311 + 3 * k) (314 + 3 * k) i4) (nI ((311 + (3 * k + i4)) + 3)).toNatClampNeg = (rf_cp (h 323) (h 323) (311 + 3 * k) (314 + 3 * k) i4) ((311 + (3 * k + i4)) + 3) from by rw [nI_clamp (by omega)]) ?_
        refine am_iastore (pc := 40) C dX12_removes_40 bn_323 sh_323 (vp_in_nI (by omega) (by decide)) ?_
        refine am_hp (show am_up (am_row h 323 (rf_cp (h 323) (h 323) (311 + 3 * k) (314 + 3 * k) i4)) 323 (nI (311 + (3 * k + i4))).toNatClampNeg ((rf_cp (h 323) (h 323) (311 + 3 * k) (314 + 3 * k) i4) ((311 + (3 * k + i4)) + 3)) = am_row (am_row h 323 (rf_cp (h 323) (h 323) (311 + 3 * k) (314 + 3 * k) i4)) 323 (upd (rf_cp (h 323) (h 323) (311 + 3 * k) (314 + 3 * k) i4) (311 + (3 * k + i4)) ((rf_cp (h 323) (h 323) (311 + 3 * k) (314 + 3 * k) i4) ((311 + (3 * k + i4)) + 3))) from by rw [nI_clamp (by omega)]; exact am_up_rw _ _ _ _) ?_
        refine am_hp (show am_row (am_row h 323 (rf_cp (h 323) (h 323) (311 + 3 * k) (314 + 3 * k) i4)) 323 (upd (rf_cp (h 323) (h 323) (311 + 3 * k) (314 + 3 * k) i4) (311 + (3 * k + i4)) ((rf_cp (h 323) (h 323) (311 + 3 * k) (314 + 3 * k) i4) ((311 + (3 * k + i4)) + 3))) = (am_row h 323 (upd (rf_cp (h 323) (h 323) (311 + 3 * k) (314 + 3 * k) i4) (311 + (3 * k + i4)) ((rf_cp (h 323) (h 323) (311 + 3 * k) (314 + 3 * k) i4) ((311 + (3 * k + i4)) + 3)))) from am_row_s0) ?_
        refine am_iincN (pc := 41) (ls' := [(0, .ref 322), (1, .int (nI k)), (2, .int (nI (3 * k + i4 + 1)))]) C dX12_removes_41 rfl (am_up1 _) (by decide) rfl ?_
        refine am_goto (pc := 44) (tgt := 4) C dX12_removes_44 (by decide) ?_
        refine am_hp (show (am_row h 323 (upd (rf_cp (h 323) (h 323) (311 + 3 * k) (314 + 3 * k) i4) (311 + (3 * k + i4)) ((rf_cp (h 323) (h 323) (311 + 3 * k) (314 + 3 * k) i4) ((311 + (3 * k + i4)) + 3)))) = (am_row h 323 (rf_cp (h 323) (h 323) (311 + 3 * k) (314 + 3 * k) (i4 + 1))) from congrArg (am_row h 323) (rf_cp_s (by omega) (by rw [rf_cp_out (by omega)]; congr 1; omega) rfl)) ?_
        refine am_lsv (ls' := [(0, .ref 322), (1, .int (nI k)), (2, .int (nI (3 * k + (i4 + 1))))]) (by rw [show (nI (3 * k + i4 + 1)) = (nI (3 * k + (i4 + 1))) from (congrArg nI (by omega))]) ?_
        exact ih4 (i4 + 1) (by omega) 
  refine am_hp (show h = (am_row h 323 (rf_cp (h 323) (h 323) (311 + 3 * k) (314 + 3 * k) 0)) from (by rw [rf_cp_0]; exact (am_row_id _ _).symm)) ?_
  refine am_lsv (ls' := [(0, .ref 322), (1, .int (nI k)), (2, .int (nI (3 * k + 0)))]) (by rw [show (nI (3 * k)) = (nI (3 * k + 0)) from (by rfl)]) ?_
  exact L4 (3 * (rf_F (h 323) - 1 - k)) 0 (by omega) 

