/-! THE CLASS'S PUBLIC CALLS: images, the tape fed, what is undone -/
section M43
def cl_sh (x : Int32) (s : Nat) : Int32 := (x >>> (nI s &&& 31)) &&& nI 255
def cl_ad (f : Nat → Int32) (n : Nat) (x : Int32) : Nat → Int32 := upd (upd (upd (upd f n (cl_sh x 24)) (n + 1) (cl_sh x 16)) (n + 2) (cl_sh x 8)) (n + 3) (cl_sh x 0)
set_option maxRecDepth 100000 in
theorem c_X11_undo {ad : Nat → Nat} {r : am_R} {h : am_H} (hR : am_rs r) (w o a : rf_W) (hV : 0 < rf_rmd o → rf_I (rf_act w a (rf_rmd o - 1))) (hn : rf_n (o 7) 13) (hPa : cl_Pa r h o w a) : am_CM mX11_undo 5 0 0 [.ref 0] (am_VV ad) r h (fun v r' h' => v = some (.int (am_b (decide (0 < rf_rmd o)))) ∧ r' = r ∧ (rf_rmd o = 0 → h' = h) ∧ (0 < rf_rmd o → cl_Sc h' 25 (rf_act w a (rf_rmd o - 1)) ∧ h' 132 1 = nI (rf_rmd o - 1) ∧ ∀ i, (i < 25 ∨ 40 ≤ i) ∧ i ≠ 132 → h' i = h i)) := by
  refine am_CM.of (by decide +kernel) (Nat.le_of_ble_eq_true rfl) (fun X C T => ?_)
  show am_G X (am_VV ad) (0, 0) 0 [(0, .ref 0)] [] r h
  refine am_aload_n (pc := 0) C dX11_undo_0 rfl ?_
  refine am_getR (pc := 1) (j := 132) C dX11_undo_1 f11_69 bn_0 sh_0 (rf_0_7 hR) ?_
  refine am_aload_n (pc := 4) C dX11_undo_4 rfl ?_
  refine am_getR (pc := 5) (j := 3) C dX11_undo_5 f11_27 bn_0 sh_0 (rf_0_1 hR) ?_
  refine am_getR (pc := 8) (j := 25) C dX11_undo_8 f11_177 bn_3 sh_3 (rf_3_2 hR) ?_
  refine am_callV (mc := 0) (ms := 0) (Y := mX4_giveBack) (pc := 11) (st := []) (As := [.ref 25]) C dX11_undo_11 k11_470 v_X4_giveBack rfl rfl bn_132 sh_132 ⟨by decide, rfl⟩ (by decide) (Nat.zero_le _) (Nat.zero_le _) (Nat.le_of_ble_eq_true rfl) (c_X4_giveBack hR w o a hV hn hPa) (fun v9 r9 h9 hq9 => ?_)
  obtain ⟨rfl, hq⟩ := hq9
  exact am_iret T dX11_undo_14 rfl (am_b_nar _) (Nat.le_refl _) (Nat.le_refl _) ⟨rfl, hq⟩
end M43

set_option maxHeartbeats 400000 in
set_option maxRecDepth 100000 in
theorem c_X11_image {ad : Nat → Nat} {r : am_R} (hR : am_rs r) {h : am_H}  (w : rf_W) (hV : rf_I w) (hLo : cl_Lo (h) 4 w) (hSc : cl_Sc (h) 25 w) (hLw : rf_Lw w) (hA : cl_La (h) 17 w)  : am_CM mX11_image 7 0 0 [.ref 0] (am_VV ad) r h (am_pr none r (fun c9 => (cl_Lo c9 94 w ∧ cl_La c9 107 w ∧ cl_Sc c9 115 w) ∧ (c9 0 11 = nI 1 ∧ c9 0 12 = (h 0) 12) ∧ ∀ i, i ≠ 0 ∧ (i < 94 ∨ 130 ≤ i) → c9 i = h i)) := by
  refine am_CM.of (by decide +kernel) (Nat.le_of_ble_eq_true rfl) (fun X C T => ?_)
  show am_G X (am_VV ad) (0, 0) 0 [(0, .ref 0)] [] r h
  have hM9 : rf_M w < 17 := hV.1.1.2
  have hS9 : rf_S w < 11 := hV.1.2.1.2
  have hO9 : rf_O w < 11 := hV.1.2.2.2
  refine am_aload_n (pc := 0) C dX11_image_0 rfl ?_
  refine am_getR (pc := 1) (j := 93) C dX11_image_1 f11_45 bn_0 sh_0 (rf_0_4 hR) ?_
  refine am_aload_n (pc := 4) C dX11_image_4 rfl ?_
  refine am_getR (pc := 5) (j := 3) C dX11_image_5 f11_27 bn_0 sh_0 (rf_0_1 hR) ?_
  refine am_callVvr (Y := mX10_copyFrom) (pc := 8) (st := []) (As := [.ref 3]) (PP := fun c9 => cl_Lo c9 94 w ∧ cl_La c9 107 w ∧ cl_Sc c9 115 w ∧ cl_fr (h) c9 94 36) C dX11_image_8 k11_111 v_X10_copyFrom rfl rfl bn_93 sh_93 ⟨by decide, rfl⟩ (by decide) (Nat.zero_le _) (Nat.zero_le _) (Nat.le_of_ble_eq_true rfl) (c_X10_copyFrom_kn hR w (show rf_I w from hV) (show cl_Lo (h) 4 w from hLo) (show cl_Sc (h) 25 w from hSc) (show rf_Lw w from hLw) (show cl_La (h) 17 w from hA)) (fun g8_0 hg8_0 => ?_)
  obtain ⟨L8, A8, S8, F8⟩ := hg8_0
  refine am_aload_n (pc := 11) C dX11_image_11 rfl ?_
  refine am_iconstN (pc := 12) (k := 1) C dX11_image_12 ?_
  refine am_putZ (pc := 13) C dX11_image_13 f11_96 bn_0 sh_0 rfl rfl (by decide) ?_
  refine am_hp (show am_up g8_0 0 11 (nI 1) = am_row g8_0 0 (upd (g8_0 0) 11 (nI 1)) from am_up_rw _ _ _ _) ?_
  exact am_vretvr T dX11_image_16 rfl (Nat.le_refl _) (Nat.le_refl _) rfl ⟨⟨cl_Lo_eq (fun i a b => am_row_ne _ _ _ (by omega)) L8, cl_La_eq (fun i a b => am_row_ne _ _ _ (by omega)) A8, cl_Sc_eq (fun i a b => am_row_ne _ _ _ (by omega)) S8⟩, ⟨by rw [am_row_at]; exact rf_upd_eq, by rw [am_row_at, rf_upd_ne (by decide), F8 0 (by omega)]⟩, (fun i9 h9 => by rw [am_row_ne _ _ _ (by omega)]; exact F8 i9 (by omega))⟩

set_option maxHeartbeats 400000 in
set_option maxRecDepth 100000 in
theorem c_X11_back {ad : Nat → Nat} {r : am_R} (hR : am_rs r) {h : am_H}  (w : rf_W) (hV : rf_I w) (hLo : cl_Lo (h) 4 w) (hSc : cl_Sc (h) 25 w) (img : rf_W) (hI : ¬ (h 0) 11 = 0 → (rf_I img ∧ rf_Lw img) ∧ cl_Lo (h) 94 img ∧ cl_La (h) 107 img ∧ cl_Sc (h) 115 img)  : am_CM mX11_back 7 0 0 [.ref 0] (am_VV ad) r h (am_pr (some (.int (am_b (!decide ((h 0) 11 = 0))))) r (fun c9 => ((h 0) 11 = 0 → c9 = h) ∧ (¬ (h 0) 11 = 0 → (cl_Lo c9 4 img ∧ cl_La c9 17 img ∧ cl_Sc c9 25 img) ∧ c9 132 1 = nI 0 ∧ ∀ i, i ≠ 132 ∧ (i < 4 ∨ 40 ≤ i) → c9 i = h i))) := by
  refine am_CM.of (by decide +kernel) (Nat.le_of_ble_eq_true rfl) (fun X C T => ?_)
  show am_G X (am_VV ad) (0, 0) 0 [(0, .ref 0)] [] r h
  have hM9 : rf_M w < 17 := hV.1.1.2
  have hS9 : rf_S w < 11 := hV.1.2.1.2
  have hO9 : rf_O w < 11 := hV.1.2.2.2
  refine am_aload_n (pc := 0) C dX11_back_0 rfl ?_
  refine am_getI (pc := 1) C dX11_back_1 f11_96 bn_0 sh_0 ?_
  refine am_if_ne (pc := 4) (tgt := 9) C dX11_back_4 (by decide) (fun q4 => ?_) (fun q4 => ?_)
  · skip
    obtain ⟨⟨VI, WI⟩, LI, AI, SI⟩ := hI q4
    refine am_aload_n (pc := 9) C dX11_back_9 rfl ?_
    refine am_getR (pc := 10) (j := 3) C dX11_back_10 f11_27 bn_0 sh_0 (rf_0_1 hR) ?_
    refine am_aload_n (pc := 13) C dX11_back_13 rfl ?_
    refine am_getR (pc := 14) (j := 93) C dX11_back_14 f11_45 bn_0 sh_0 (rf_0_4 hR) ?_
    refine am_callVvr (Y := mX10_copyFrom) (pc := 17) (st := []) (As := [.ref 93]) (PP := fun c9 => cl_Lo c9 4 img ∧ cl_La c9 17 img ∧ cl_Sc c9 25 img ∧ cl_fr (h) c9 4 36) C dX11_back_17 k11_111 v_X10_copyFrom rfl rfl bn_3 sh_3 ⟨by decide, rfl⟩ (by decide) (Nat.zero_le _) (Nat.zero_le _) (Nat.le_of_ble_eq_true rfl) (c_X10_copyFrom_nk hR img (show rf_I img from VI) (show cl_Lo (h) 94 img from LI) (show cl_Sc (h) 115 img from SI) (show rf_Lw img from WI) (show cl_La (h) 107 img from AI)) (fun g17_0 hg17_0 => ?_)
    obtain ⟨L17, A17, S17, F17⟩ := hg17_0
    refine am_aload_n (pc := 20) C dX11_back_20 rfl ?_
    refine am_getR (pc := 21) (j := 132) C dX11_back_21 f11_69 bn_0 sh_0 (rf_0_7 hR) ?_
    refine am_iconstN (pc := 24) (k := 0) C dX11_back_24 ?_
    refine am_putI (pc := 25) C dX11_back_25 f11_137 bn_132 sh_132 rfl rfl ?_
    refine am_hp (show am_up g17_0 132 1 (nI 0) = am_row g17_0 132 (upd (g17_0 132) 1 (nI 0)) from am_up_rw _ _ _ _) ?_
    refine am_iconstN (pc := 28) (k := 1) C dX11_back_28 ?_
    exact am_iretbr T dX11_back_29 rfl (Nat.le_refl _) (Nat.le_refl _) (by rw [decide_eq_false q4]; rfl) rfl ⟨fun z => absurd z q4, fun _ => ⟨⟨cl_Lo_eq (fun i a b => am_row_ne _ _ _ (by omega)) L17, cl_La_eq (fun i a b => am_row_ne _ _ _ (by omega)) A17, cl_Sc_eq (fun i a b => am_row_ne _ _ _ (by omega)) S17⟩, by rw [am_row_at]; exact rf_upd_eq, (fun i9 h9 => by rw [am_row_ne _ _ _ (by omega)]; exact F17 i9 (by omega))⟩⟩
  · skip
    refine am_iconstN (pc := 7) (k := 0) C dX11_back_7 ?_
    exact am_iretbr T dX11_back_8 rfl (Nat.le_refl _) (Nat.le_refl _) (by rw [decide_eq_true q4]; rfl) rfl ⟨fun _ => rfl, fun z => absurd q4 z⟩

set_option maxHeartbeats 400000 in
set_option maxRecDepth 100000 in
theorem c_X8_addNumber {ad : Nat → Nat} {r : am_R} (hR : am_rs r) {h : am_H} (x : Int32) (n : Nat) (hn : (h 1) 1 = nI n) (hle : n + 4 ≤ 400)  : am_CM mX8_addNumber 1 0 0 [.ref 1, .int x] (am_VV ad) r h (am_po none r (am_row (am_row h 2 (cl_ad (h 2) n x)) 1 (upd (h 1) 1 (nI (n + 4))))) := by
  refine am_CM.of (by decide +kernel) (Nat.le_of_ble_eq_true rfl) (fun X C T => ?_)
  show am_G X (am_VV ad) (0, 0) 0 [(0, .ref 1), (1, .int x)] [] r h
  refine am_bipush (pc := 0) (v := nI 24) C dX8_addNumber_0 (by decide) ?_
  refine am_istore_n (pc := 2) (ls' := [(0, .ref 1), (1, .int x), (2, .int (nI 24))]) C dX8_addNumber_2 (by decide) rfl ?_
  refine am_iload_n (pc := 3) C dX8_addNumber_3 rfl ?_
  refine am_if_ltN (pc := 4) (tgt := 41) C dX8_addNumber_4 (by decide) (by omega) ?_
  refine am_aload_n (pc := 7) C dX8_addNumber_7 rfl ?_
  refine am_getR (pc := 8) (j := 2) C dX8_addNumber_8 f8_9 bn_1 sh_1 (rf_1_0 hR) ?_
  refine am_aload_n (pc := 11) C dX8_addNumber_11 rfl ?_
  refine am_getI (pc := 12) C dX8_addNumber_12 f8_15 bn_1 sh_1 ?_
  refine am_top (show ((h 1) 1) = (nI n) from hn) ?_
  refine am_iload_n (pc := 15) C dX8_addNumber_15 rfl ?_
  refine am_iload_n (pc := 16) C dX8_addNumber_16 rfl ?_
  refine am_ishr (pc := 17) C dX8_addNumber_17 ?_
  refine am_sipush (pc := 18) (v := nI 255) C dX8_addNumber_18 (by decide) ?_
  refine am_iand (pc := 21) C dX8_addNumber_21 ?_
  refine am_callSNv (Y := mX11_put) (pc := 22) (st := []) (As := [.ref 2, .int (nI n), .int ((x >>> ((nI 24) &&& 31)) &&& (nI 255))]) (h2 := (am_row h 2 (upd (h 2) n ((x >>> ((nI 24) &&& 31)) &&& (nI 255))))) C dX8_addNumber_22 k8_19 v_X11_put rfl rfl (by decide) (Nat.zero_le _) (Nat.zero_le _) (Nat.le_of_ble_eq_true rfl) (c_X11_put 2 n ((x >>> ((nI 24) &&& 31)) &&& (nI 255)) 400 bn_2 sh_2 (show n < 400 from by omega) (by decide)) ?_
  refine am_aload_n (pc := 25) C dX8_addNumber_25 rfl ?_
  refine am_dup (pc := 26) C dX8_addNumber_26 rfl ?_
  refine am_getI (pc := 27) C dX8_addNumber_27 f8_15 bn_1 sh_1 ?_
  refine am_top (show ((h 1) 1) = (nI n) from hn) ?_
  refine am_iconstN (pc := 30) (k := 1) C dX8_addNumber_30 ?_
  refine am_iaddN (pc := 31) C dX8_addNumber_31 ?_
  refine am_putI (pc := 32) C dX8_addNumber_32 f8_15 bn_1 sh_1 rfl rfl ?_
  refine am_hp (show am_up (am_row h 2 (upd (h 2) n ((x >>> ((nI 24) &&& 31)) &&& (nI 255)))) 1 1 (nI (n + 1)) = am_row (am_row h 2 (upd (h 2) n ((x >>> ((nI 24) &&& 31)) &&& (nI 255)))) 1 (upd (h 1) 1 (nI (n + 1))) from am_up_rw _ _ _ _) ?_
  refine am_iincN (pc := 35) (ls' := [(0, .ref 1), (1, .int x), (2, .int (nI 16))]) C dX8_addNumber_35 rfl (by decide) (by decide) rfl ?_
  refine am_goto (pc := 38) (tgt := 3) C dX8_addNumber_38 (by decide) ?_
  refine am_iload_n (pc := 3) C dX8_addNumber_3 rfl ?_
  refine am_if_ltN (pc := 4) (tgt := 41) C dX8_addNumber_4 (by decide) (by omega) ?_
  refine am_aload_n (pc := 7) C dX8_addNumber_7 rfl ?_
  refine am_getR (pc := 8) (j := 2) C dX8_addNumber_8 f8_9 bn_1 sh_1 (rf_1_0 hR) ?_
  refine am_aload_n (pc := 11) C dX8_addNumber_11 rfl ?_
  refine am_getI (pc := 12) C dX8_addNumber_12 f8_15 bn_1 sh_1 ?_
  refine am_top (show ((upd (h 1) 1 (nI (n + 1))) 1) = (nI (n + 1)) from rf_upd_eq) ?_
  refine am_iload_n (pc := 15) C dX8_addNumber_15 rfl ?_
  refine am_iload_n (pc := 16) C dX8_addNumber_16 rfl ?_
  refine am_ishr (pc := 17) C dX8_addNumber_17 ?_
  refine am_sipush (pc := 18) (v := nI 255) C dX8_addNumber_18 (by decide) ?_
  refine am_iand (pc := 21) C dX8_addNumber_21 ?_
  refine am_callSNv (Y := mX11_put) (pc := 22) (st := []) (As := [.ref 2, .int (nI (n + 1)), .int ((x >>> ((nI 16) &&& 31)) &&& (nI 255))]) (h2 := (am_row (am_row (am_row h 2 (upd (h 2) n ((x >>> ((nI 24) &&& 31)) &&& (nI 255)))) 1 (upd (h 1) 1 (nI (n + 1)))) 2 (upd (upd (h 2) n ((x >>> ((nI 24) &&& 31)) &&& (nI 255))) (n + 1) ((x >>> ((nI 16) &&& 31)) &&& (nI 255))))) C dX8_addNumber_22 k8_19 v_X11_put rfl rfl (by decide) (Nat.zero_le _) (Nat.zero_le _) (Nat.le_of_ble_eq_true rfl) (c_X11_put 2 (n + 1) ((x >>> ((nI 16) &&& 31)) &&& (nI 255)) 400 bn_2 sh_2 (show n + 1 < 400 from by omega) (by decide)) ?_
  refine am_hp (show (am_row (am_row (am_row h 2 (upd (h 2) n ((x >>> ((nI 24) &&& 31)) &&& (nI 255)))) 1 (upd (h 1) 1 (nI (n + 1)))) 2 (upd (upd (h 2) n ((x >>> ((nI 24) &&& 31)) &&& (nI 255))) (n + 1) ((x >>> ((nI 16) &&& 31)) &&& (nI 255)))) = (am_row (am_row h 2 (upd (upd (h 2) n ((x >>> ((nI 24) &&& 31)) &&& (nI 255))) (n + 1) ((x >>> ((nI 16) &&& 31)) &&& (nI 255)))) 1 (upd (h 1) 1 (nI (n + 1)))) from am_row_s1 (by decide)) ?_
  refine am_aload_n (pc := 25) C dX8_addNumber_25 rfl ?_
  refine am_dup (pc := 26) C dX8_addNumber_26 rfl ?_
  refine am_getI (pc := 27) C dX8_addNumber_27 f8_15 bn_1 sh_1 ?_
  refine am_top (show ((upd (h 1) 1 (nI (n + 1))) 1) = (nI (n + 1)) from rf_upd_eq) ?_
  refine am_iconstN (pc := 30) (k := 1) C dX8_addNumber_30 ?_
  refine am_iaddN (pc := 31) C dX8_addNumber_31 ?_
  refine am_putI (pc := 32) C dX8_addNumber_32 f8_15 bn_1 sh_1 rfl rfl ?_
  refine am_hp (show am_up (am_row (am_row h 2 (upd (upd (h 2) n ((x >>> ((nI 24) &&& 31)) &&& (nI 255))) (n + 1) ((x >>> ((nI 16) &&& 31)) &&& (nI 255)))) 1 (upd (h 1) 1 (nI (n + 1)))) 1 1 (nI ((n + 1) + 1)) = am_row (am_row (am_row h 2 (upd (upd (h 2) n ((x >>> ((nI 24) &&& 31)) &&& (nI 255))) (n + 1) ((x >>> ((nI 16) &&& 31)) &&& (nI 255)))) 1 (upd (h 1) 1 (nI (n + 1)))) 1 (upd (upd (h 1) 1 (nI (n + 1))) 1 (nI ((n + 1) + 1))) from am_up_rw _ _ _ _) ?_
  refine am_hp (show am_row (am_row (am_row h 2 (upd (upd (h 2) n ((x >>> ((nI 24) &&& 31)) &&& (nI 255))) (n + 1) ((x >>> ((nI 16) &&& 31)) &&& (nI 255)))) 1 (upd (h 1) 1 (nI (n + 1)))) 1 (upd (upd (h 1) 1 (nI (n + 1))) 1 (nI ((n + 1) + 1))) = (am_row (am_row h 2 (upd (upd (h 2) n ((x >>> ((nI 24) &&& 31)) &&& (nI 255))) (n + 1) ((x >>> ((nI 16) &&& 31)) &&& (nI 255)))) 1 (upd (upd (h 1) 1 (nI (n + 1))) 1 (nI ((n + 1) + 1)))) from am_row_s0) ?_
  refine am_iincN (pc := 35) (ls' := [(0, .ref 1), (1, .int x), (2, .int (nI 8))]) C dX8_addNumber_35 rfl (by decide) (by decide) rfl ?_
  refine am_goto (pc := 38) (tgt := 3) C dX8_addNumber_38 (by decide) ?_
  refine am_iload_n (pc := 3) C dX8_addNumber_3 rfl ?_
  refine am_if_ltN (pc := 4) (tgt := 41) C dX8_addNumber_4 (by decide) (by omega) ?_
  refine am_aload_n (pc := 7) C dX8_addNumber_7 rfl ?_
  refine am_getR (pc := 8) (j := 2) C dX8_addNumber_8 f8_9 bn_1 sh_1 (rf_1_0 hR) ?_
  refine am_aload_n (pc := 11) C dX8_addNumber_11 rfl ?_
  refine am_getI (pc := 12) C dX8_addNumber_12 f8_15 bn_1 sh_1 ?_
  refine am_top (show ((upd (upd (h 1) 1 (nI (n + 1))) 1 (nI ((n + 1) + 1))) 1) = (nI ((n + 1) + 1)) from rf_upd_eq) ?_
  refine am_iload_n (pc := 15) C dX8_addNumber_15 rfl ?_
  refine am_iload_n (pc := 16) C dX8_addNumber_16 rfl ?_
  refine am_ishr (pc := 17) C dX8_addNumber_17 ?_
  refine am_sipush (pc := 18) (v := nI 255) C dX8_addNumber_18 (by decide) ?_
  refine am_iand (pc := 21) C dX8_addNumber_21 ?_
  refine am_callSNv (Y := mX11_put) (pc := 22) (st := []) (As := [.ref 2, .int (nI ((n + 1) + 1)), .int ((x >>> ((nI 8) &&& 31)) &&& (nI 255))]) (h2 := (am_row (am_row (am_row h 2 (upd (upd (h 2) n ((x >>> ((nI 24) &&& 31)) &&& (nI 255))) (n + 1) ((x >>> ((nI 16) &&& 31)) &&& (nI 255)))) 1 (upd (upd (h 1) 1 (nI (n + 1))) 1 (nI ((n + 1) + 1)))) 2 (upd (upd (upd (h 2) n ((x >>> ((nI 24) &&& 31)) &&& (nI 255))) (n + 1) ((x >>> ((nI 16) &&& 31)) &&& (nI 255))) ((n + 1) + 1) ((x >>> ((nI 8) &&& 31)) &&& (nI 255))))) C dX8_addNumber_22 k8_19 v_X11_put rfl rfl (by decide) (Nat.zero_le _) (Nat.zero_le _) (Nat.le_of_ble_eq_true rfl) (c_X11_put 2 ((n + 1) + 1) ((x >>> ((nI 8) &&& 31)) &&& (nI 255)) 400 bn_2 sh_2 (show (n + 1) + 1 < 400 from by omega) (by decide)) ?_
  refine am_hp (show (am_row (am_row (am_row h 2 (upd (upd (h 2) n ((x >>> ((nI 24) &&& 31)) &&& (nI 255))) (n + 1) ((x >>> ((nI 16) &&& 31)) &&& (nI 255)))) 1 (upd (upd (h 1) 1 (nI (n + 1))) 1 (nI ((n + 1) + 1)))) 2 (upd (upd (upd (h 2) n ((x >>> ((nI 24) &&& 31)) &&& (nI 255))) (n + 1) ((x >>> ((nI 16) &&& 31)) &&& (nI 255))) ((n + 1) + 1) ((x >>> ((nI 8) &&& 31)) &&& (nI 255)))) = (am_row (am_row h 2 (upd (upd (upd (h 2) n ((x >>> ((nI 24) &&& 31)) &&& (nI 255))) (n + 1) ((x >>> ((nI 16) &&& 31)) &&& (nI 255))) ((n + 1) + 1) ((x >>> ((nI 8) &&& 31)) &&& (nI 255)))) 1 (upd (upd (h 1) 1 (nI (n + 1))) 1 (nI ((n + 1) + 1)))) from am_row_s1 (by decide)) ?_
  refine am_aload_n (pc := 25) C dX8_addNumber_25 rfl ?_
  refine am_dup (pc := 26) C dX8_addNumber_26 rfl ?_
  refine am_getI (pc := 27) C dX8_addNumber_27 f8_15 bn_1 sh_1 ?_
  refine am_top (show ((upd (upd (h 1) 1 (nI (n + 1))) 1 (nI ((n + 1) + 1))) 1) = (nI ((n + 1) + 1)) from rf_upd_eq) ?_
  refine am_iconstN (pc := 30) (k := 1) C dX8_addNumber_30 ?_
  refine am_iaddN (pc := 31) C dX8_addNumber_31 ?_
  refine am_putI (pc := 32) C dX8_addNumber_32 f8_15 bn_1 sh_1 rfl rfl ?_
  refine am_hp (show am_up (am_row (am_row h 2 (upd (upd (upd (h 2) n ((x >>> ((nI 24) &&& 31)) &&& (nI 255))) (n + 1) ((x >>> ((nI 16) &&& 31)) &&& (nI 255))) ((n + 1) + 1) ((x >>> ((nI 8) &&& 31)) &&& (nI 255)))) 1 (upd (upd (h 1) 1 (nI (n + 1))) 1 (nI ((n + 1) + 1)))) 1 1 (nI (((n + 1) + 1) + 1)) = am_row (am_row (am_row h 2 (upd (upd (upd (h 2) n ((x >>> ((nI 24) &&& 31)) &&& (nI 255))) (n + 1) ((x >>> ((nI 16) &&& 31)) &&& (nI 255))) ((n + 1) + 1) ((x >>> ((nI 8) &&& 31)) &&& (nI 255)))) 1 (upd (upd (h 1) 1 (nI (n + 1))) 1 (nI ((n + 1) + 1)))) 1 (upd (upd (upd (h 1) 1 (nI (n + 1))) 1 (nI ((n + 1) + 1))) 1 (nI (((n + 1) + 1) + 1))) from am_up_rw _ _ _ _) ?_
  refine am_hp (show am_row (am_row (am_row h 2 (upd (upd (upd (h 2) n ((x >>> ((nI 24) &&& 31)) &&& (nI 255))) (n + 1) ((x >>> ((nI 16) &&& 31)) &&& (nI 255))) ((n + 1) + 1) ((x >>> ((nI 8) &&& 31)) &&& (nI 255)))) 1 (upd (upd (h 1) 1 (nI (n + 1))) 1 (nI ((n + 1) + 1)))) 1 (upd (upd (upd (h 1) 1 (nI (n + 1))) 1 (nI ((n + 1) + 1))) 1 (nI (((n + 1) + 1) + 1))) = (am_row (am_row h 2 (upd (upd (upd (h 2) n ((x >>> ((nI 24) &&& 31)) &&& (nI 255))) (n + 1) ((x >>> ((nI 16) &&& 31)) &&& (nI 255))) ((n + 1) + 1) ((x >>> ((nI 8) &&& 31)) &&& (nI 255)))) 1 (upd (upd (upd (h 1) 1 (nI (n + 1))) 1 (nI ((n + 1) + 1))) 1 (nI (((n + 1) + 1) + 1)))) from am_row_s0) ?_
  refine am_iincN (pc := 35) (ls' := [(0, .ref 1), (1, .int x), (2, .int (nI 0))]) C dX8_addNumber_35 rfl (by decide) (by decide) rfl ?_
  refine am_goto (pc := 38) (tgt := 3) C dX8_addNumber_38 (by decide) ?_
  refine am_iload_n (pc := 3) C dX8_addNumber_3 rfl ?_
  refine am_if_ltN (pc := 4) (tgt := 41) C dX8_addNumber_4 (by decide) (by omega) ?_
  refine am_aload_n (pc := 7) C dX8_addNumber_7 rfl ?_
  refine am_getR (pc := 8) (j := 2) C dX8_addNumber_8 f8_9 bn_1 sh_1 (rf_1_0 hR) ?_
  refine am_aload_n (pc := 11) C dX8_addNumber_11 rfl ?_
  refine am_getI (pc := 12) C dX8_addNumber_12 f8_15 bn_1 sh_1 ?_
  refine am_top (show ((upd (upd (upd (h 1) 1 (nI (n + 1))) 1 (nI ((n + 1) + 1))) 1 (nI (((n + 1) + 1) + 1))) 1) = (nI (((n + 1) + 1) + 1)) from rf_upd_eq) ?_
  refine am_iload_n (pc := 15) C dX8_addNumber_15 rfl ?_
  refine am_iload_n (pc := 16) C dX8_addNumber_16 rfl ?_
  refine am_ishr (pc := 17) C dX8_addNumber_17 ?_
  refine am_sipush (pc := 18) (v := nI 255) C dX8_addNumber_18 (by decide) ?_
  refine am_iand (pc := 21) C dX8_addNumber_21 ?_
  refine am_callSNv (Y := mX11_put) (pc := 22) (st := []) (As := [.ref 2, .int (nI (((n + 1) + 1) + 1)), .int ((x >>> ((nI 0) &&& 31)) &&& (nI 255))]) (h2 := (am_row (am_row (am_row h 2 (upd (upd (upd (h 2) n ((x >>> ((nI 24) &&& 31)) &&& (nI 255))) (n + 1) ((x >>> ((nI 16) &&& 31)) &&& (nI 255))) ((n + 1) + 1) ((x >>> ((nI 8) &&& 31)) &&& (nI 255)))) 1 (upd (upd (upd (h 1) 1 (nI (n + 1))) 1 (nI ((n + 1) + 1))) 1 (nI (((n + 1) + 1) + 1)))) 2 (upd (upd (upd (upd (h 2) n ((x >>> ((nI 24) &&& 31)) &&& (nI 255))) (n + 1) ((x >>> ((nI 16) &&& 31)) &&& (nI 255))) ((n + 1) + 1) ((x >>> ((nI 8) &&& 31)) &&& (nI 255))) (((n + 1) + 1) + 1) ((x >>> ((nI 0) &&& 31)) &&& (nI 255))))) C dX8_addNumber_22 k8_19 v_X11_put rfl rfl (by decide) (Nat.zero_le _) (Nat.zero_le _) (Nat.le_of_ble_eq_true rfl) (c_X11_put 2 (((n + 1) + 1) + 1) ((x >>> ((nI 0) &&& 31)) &&& (nI 255)) 400 bn_2 sh_2 (show ((n + 1) + 1) + 1 < 400 from by omega) (by decide)) ?_
  refine am_hp (show (am_row (am_row (am_row h 2 (upd (upd (upd (h 2) n ((x >>> ((nI 24) &&& 31)) &&& (nI 255))) (n + 1) ((x >>> ((nI 16) &&& 31)) &&& (nI 255))) ((n + 1) + 1) ((x >>> ((nI 8) &&& 31)) &&& (nI 255)))) 1 (upd (upd (upd (h 1) 1 (nI (n + 1))) 1 (nI ((n + 1) + 1))) 1 (nI (((n + 1) + 1) + 1)))) 2 (upd (upd (upd (upd (h 2) n ((x >>> ((nI 24) &&& 31)) &&& (nI 255))) (n + 1) ((x >>> ((nI 16) &&& 31)) &&& (nI 255))) ((n + 1) + 1) ((x >>> ((nI 8) &&& 31)) &&& (nI 255))) (((n + 1) + 1) + 1) ((x >>> ((nI 0) &&& 31)) &&& (nI 255)))) = (am_row (am_row h 2 (upd (upd (upd (upd (h 2) n ((x >>> ((nI 24) &&& 31)) &&& (nI 255))) (n + 1) ((x >>> ((nI 16) &&& 31)) &&& (nI 255))) ((n + 1) + 1) ((x >>> ((nI 8) &&& 31)) &&& (nI 255))) (((n + 1) + 1) + 1) ((x >>> ((nI 0) &&& 31)) &&& (nI 255)))) 1 (upd (upd (upd (h 1) 1 (nI (n + 1))) 1 (nI ((n + 1) + 1))) 1 (nI (((n + 1) + 1) + 1)))) from am_row_s1 (by decide)) ?_
  refine am_aload_n (pc := 25) C dX8_addNumber_25 rfl ?_
  refine am_dup (pc := 26) C dX8_addNumber_26 rfl ?_
  refine am_getI (pc := 27) C dX8_addNumber_27 f8_15 bn_1 sh_1 ?_
  refine am_top (show ((upd (upd (upd (h 1) 1 (nI (n + 1))) 1 (nI ((n + 1) + 1))) 1 (nI (((n + 1) + 1) + 1))) 1) = (nI (((n + 1) + 1) + 1)) from rf_upd_eq) ?_
  refine am_iconstN (pc := 30) (k := 1) C dX8_addNumber_30 ?_
  refine am_iaddN (pc := 31) C dX8_addNumber_31 ?_
  refine am_putI (pc := 32) C dX8_addNumber_32 f8_15 bn_1 sh_1 rfl rfl ?_
  refine am_hp (show am_up (am_row (am_row h 2 (upd (upd (upd (upd (h 2) n ((x >>> ((nI 24) &&& 31)) &&& (nI 255))) (n + 1) ((x >>> ((nI 16) &&& 31)) &&& (nI 255))) ((n + 1) + 1) ((x >>> ((nI 8) &&& 31)) &&& (nI 255))) (((n + 1) + 1) + 1) ((x >>> ((nI 0) &&& 31)) &&& (nI 255)))) 1 (upd (upd (upd (h 1) 1 (nI (n + 1))) 1 (nI ((n + 1) + 1))) 1 (nI (((n + 1) + 1) + 1)))) 1 1 (nI ((((n + 1) + 1) + 1) + 1)) = am_row (am_row (am_row h 2 (upd (upd (upd (upd (h 2) n ((x >>> ((nI 24) &&& 31)) &&& (nI 255))) (n + 1) ((x >>> ((nI 16) &&& 31)) &&& (nI 255))) ((n + 1) + 1) ((x >>> ((nI 8) &&& 31)) &&& (nI 255))) (((n + 1) + 1) + 1) ((x >>> ((nI 0) &&& 31)) &&& (nI 255)))) 1 (upd (upd (upd (h 1) 1 (nI (n + 1))) 1 (nI ((n + 1) + 1))) 1 (nI (((n + 1) + 1) + 1)))) 1 (upd (upd (upd (upd (h 1) 1 (nI (n + 1))) 1 (nI ((n + 1) + 1))) 1 (nI (((n + 1) + 1) + 1))) 1 (nI ((((n + 1) + 1) + 1) + 1))) from am_up_rw _ _ _ _) ?_
  refine am_hp (show am_row (am_row (am_row h 2 (upd (upd (upd (upd (h 2) n ((x >>> ((nI 24) &&& 31)) &&& (nI 255))) (n + 1) ((x >>> ((nI 16) &&& 31)) &&& (nI 255))) ((n + 1) + 1) ((x >>> ((nI 8) &&& 31)) &&& (nI 255))) (((n + 1) + 1) + 1) ((x >>> ((nI 0) &&& 31)) &&& (nI 255)))) 1 (upd (upd (upd (h 1) 1 (nI (n + 1))) 1 (nI ((n + 1) + 1))) 1 (nI (((n + 1) + 1) + 1)))) 1 (upd (upd (upd (upd (h 1) 1 (nI (n + 1))) 1 (nI ((n + 1) + 1))) 1 (nI (((n + 1) + 1) + 1))) 1 (nI ((((n + 1) + 1) + 1) + 1))) = (am_row (am_row h 2 (upd (upd (upd (upd (h 2) n ((x >>> ((nI 24) &&& 31)) &&& (nI 255))) (n + 1) ((x >>> ((nI 16) &&& 31)) &&& (nI 255))) ((n + 1) + 1) ((x >>> ((nI 8) &&& 31)) &&& (nI 255))) (((n + 1) + 1) + 1) ((x >>> ((nI 0) &&& 31)) &&& (nI 255)))) 1 (upd (upd (upd (upd (h 1) 1 (nI (n + 1))) 1 (nI ((n + 1) + 1))) 1 (nI (((n + 1) + 1) + 1))) 1 (nI ((((n + 1) + 1) + 1) + 1)))) from am_row_s0) ?_
  refine am_iinc (pc := 35) (ls' := [(0, .ref 1), (1, .int x), (2, .int (-8))]) C dX8_addNumber_35 rfl (by decide) (by decide) rfl ?_
  refine am_goto (pc := 38) (tgt := 3) C dX8_addNumber_38 (by decide) ?_
  refine am_iload_n (pc := 3) C dX8_addNumber_3 rfl ?_
  refine am_if_lt (pc := 4) (tgt := 41) C dX8_addNumber_4 (by decide) (fun q4 => ?_) (fun q4 => ?_)
  · skip
    exact am_vretv T dX8_addNumber_41 rfl (Nat.le_refl _) (Nat.le_refl _) rfl (by rw [cl_ad]; simp only [rf_upd_upd]; rfl)
  · skip
    exact absurd (by decide) q4

set_option maxHeartbeats 400000 in
set_option maxRecDepth 100000 in
theorem c_X11_feed {ad : Nat → Nat} {r : am_R} (hR : am_rs r) {h : am_H} (a : Int32) (b : Int32) (cc : Int32) (d : Int32) (e : Int32) (w : rf_W) (hV : rf_I w) (hLo : cl_Lo (h) 4 w) (hSc : cl_Sc (h) 25 w) (n : Nat) (hn : (h 1) 1 = nI n) (hle : n ≤ 400)  : am_CM mX11_feed 7 0 0 [.ref 0, .int a, .int b, .int cc, .int d, .int e] (am_VV ad) r h (am_pr (some (.int (if n + 20 ≤ 400 then nI (n + 20) else -1))) r (fun c9 => c9 = if n + 20 ≤ 400 then am_row (am_row (h) 2 (cl_ad (cl_ad (cl_ad (cl_ad (cl_ad (h 2) n a) (n + 4) b) (n + 8) cc) (n + 12) d) (n + 16) e)) 1 (upd (h 1) 1 (nI (n + 20))) else (h))) := by
  refine am_CM.of (by decide +kernel) (Nat.le_of_ble_eq_true rfl) (fun X C T => ?_)
  show am_G X (am_VV ad) (0, 0) 0 [(0, .ref 0), (1, .int a), (2, .int b), (3, .int cc), (4, .int d), (5, .int e)] [] r h
  have hM9 : rf_M w < 17 := hV.1.1.2
  have hS9 : rf_S w < 11 := hV.1.2.1.2
  have hO9 : rf_O w < 11 := hV.1.2.2.2
  refine am_aload_n (pc := 0) C dX11_feed_0 rfl ?_
  refine am_getR (pc := 1) (j := 1) C dX11_feed_1 f11_10 bn_0 sh_0 (rf_0_0 hR) ?_
  refine am_getI (pc := 4) C dX11_feed_4 f11_104 bn_1 sh_1 ?_
  refine am_top (show ((h 1) 1) = (nI n) from hn) ?_
  refine am_bipush (pc := 7) (v := nI 20) C dX11_feed_7 (by decide) ?_
  refine am_iaddN (pc := 9) C dX11_feed_9 ?_
  refine am_sipush (pc := 10) (v := nI 400) C dX11_feed_10 (by decide) ?_
  refine am_icmp_leN (pc := 13) (tgt := 18) C dX11_feed_13 (by decide) (by omega) (by omega) (fun q13 => ?_) (fun q13 => ?_)
  · skip
    refine am_aload_n (pc := 18) C dX11_feed_18 rfl ?_
    refine am_getR (pc := 19) (j := 1) C dX11_feed_19 f11_10 bn_0 sh_0 (rf_0_0 hR) ?_
    refine am_iload_n (pc := 22) C dX11_feed_22 rfl ?_
    refine am_callVv (Y := mX8_addNumber) (pc := 23) (st := []) (As := [.int a]) (h2 := (am_row (am_row h 2 (cl_ad (h 2) n a)) 1 (upd (h 1) 1 (nI (n + 4))))) C dX11_feed_23 k11_107 v_X8_addNumber rfl rfl bn_1 sh_1 ⟨by decide, rfl⟩ (by decide) (Nat.zero_le _) (Nat.zero_le _) (Nat.le_of_ble_eq_true rfl) (c_X8_addNumber hR a (n) (show (h 1) 1 = nI n from (by first | exact hn | exact rf_upd_eq)) (show n + 4 ≤ 400 from (by omega))) ?_
    refine am_aload_n (pc := 26) C dX11_feed_26 rfl ?_
    refine am_getR (pc := 27) (j := 1) C dX11_feed_27 f11_10 bn_0 sh_0 (rf_0_0 hR) ?_
    refine am_iload_n (pc := 30) C dX11_feed_30 rfl ?_
    refine am_callVv (Y := mX8_addNumber) (pc := 31) (st := []) (As := [.int b]) (h2 := (am_row (am_row (am_row (am_row h 2 (cl_ad (h 2) n a)) 1 (upd (h 1) 1 (nI (n + 4)))) 2 (cl_ad (cl_ad (h 2) n a) (n + 4) b)) 1 (upd (upd (h 1) 1 (nI (n + 4))) 1 (nI ((n + 4) + 4))))) C dX11_feed_31 k11_107 v_X8_addNumber rfl rfl bn_1 sh_1 ⟨by decide, rfl⟩ (by decide) (Nat.zero_le _) (Nat.zero_le _) (Nat.le_of_ble_eq_true rfl) (c_X8_addNumber hR b (n + 4) (show (upd (h 1) 1 (nI (n + 4))) 1 = nI (n + 4) from (by first | exact hn | exact rf_upd_eq)) (show (n + 4) + 4 ≤ 400 from (by omega))) ?_
    refine am_hp (show (am_row (am_row (am_row (am_row h 2 (cl_ad (h 2) n a)) 1 (upd (h 1) 1 (nI (n + 4)))) 2 (cl_ad (cl_ad (h 2) n a) (n + 4) b)) 1 (upd (upd (h 1) 1 (nI (n + 4))) 1 (nI ((n + 4) + 4)))) = (am_row (am_row (am_row h 2 (cl_ad (cl_ad (h 2) n a) (n + 4) b)) 1 (upd (h 1) 1 (nI (n + 4)))) 1 (upd (upd (h 1) 1 (nI (n + 4))) 1 (nI ((n + 4) + 4)))) from by rw [show (am_row (am_row (am_row h 2 (cl_ad (h 2) n a)) 1 (upd (h 1) 1 (nI (n + 4)))) 2 (cl_ad (cl_ad (h 2) n a) (n + 4) b)) = (am_row (am_row h 2 (cl_ad (cl_ad (h 2) n a) (n + 4) b)) 1 (upd (h 1) 1 (nI (n + 4)))) from am_row_s1 (by decide)]) ?_
    refine am_hp (show (am_row (am_row (am_row h 2 (cl_ad (cl_ad (h 2) n a) (n + 4) b)) 1 (upd (h 1) 1 (nI (n + 4)))) 1 (upd (upd (h 1) 1 (nI (n + 4))) 1 (nI ((n + 4) + 4)))) = (am_row (am_row h 2 (cl_ad (cl_ad (h 2) n a) (n + 4) b)) 1 (upd (upd (h 1) 1 (nI (n + 4))) 1 (nI ((n + 4) + 4)))) from am_row_s0) ?_
    refine am_aload_n (pc := 34) C dX11_feed_34 rfl ?_
    refine am_getR (pc := 35) (j := 1) C dX11_feed_35 f11_10 bn_0 sh_0 (rf_0_0 hR) ?_
    refine am_iload_n (pc := 38) C dX11_feed_38 rfl ?_
    refine am_callVv (Y := mX8_addNumber) (pc := 39) (st := []) (As := [.int cc]) (h2 := (am_row (am_row (am_row (am_row h 2 (cl_ad (cl_ad (h 2) n a) (n + 4) b)) 1 (upd (upd (h 1) 1 (nI (n + 4))) 1 (nI ((n + 4) + 4)))) 2 (cl_ad (cl_ad (cl_ad (h 2) n a) (n + 4) b) (n + 8) cc)) 1 (upd (upd (upd (h 1) 1 (nI (n + 4))) 1 (nI ((n + 4) + 4))) 1 (nI ((n + 8) + 4))))) C dX11_feed_39 k11_107 v_X8_addNumber rfl rfl bn_1 sh_1 ⟨by decide, rfl⟩ (by decide) (Nat.zero_le _) (Nat.zero_le _) (Nat.le_of_ble_eq_true rfl) (c_X8_addNumber hR cc (n + 8) (show (upd (upd (h 1) 1 (nI (n + 4))) 1 (nI ((n + 4) + 4))) 1 = nI (n + 8) from (by first | exact hn | exact rf_upd_eq)) (show (n + 8) + 4 ≤ 400 from (by omega))) ?_
    refine am_hp (show (am_row (am_row (am_row (am_row h 2 (cl_ad (cl_ad (h 2) n a) (n + 4) b)) 1 (upd (upd (h 1) 1 (nI (n + 4))) 1 (nI ((n + 4) + 4)))) 2 (cl_ad (cl_ad (cl_ad (h 2) n a) (n + 4) b) (n + 8) cc)) 1 (upd (upd (upd (h 1) 1 (nI (n + 4))) 1 (nI ((n + 4) + 4))) 1 (nI ((n + 8) + 4)))) = (am_row (am_row (am_row h 2 (cl_ad (cl_ad (cl_ad (h 2) n a) (n + 4) b) (n + 8) cc)) 1 (upd (upd (h 1) 1 (nI (n + 4))) 1 (nI ((n + 4) + 4)))) 1 (upd (upd (upd (h 1) 1 (nI (n + 4))) 1 (nI ((n + 4) + 4))) 1 (nI ((n + 8) + 4)))) from by rw [show (am_row (am_row (am_row h 2 (cl_ad (cl_ad (h 2) n a) (n + 4) b)) 1 (upd (upd (h 1) 1 (nI (n + 4))) 1 (nI ((n + 4) + 4)))) 2 (cl_ad (cl_ad (cl_ad (h 2) n a) (n + 4) b) (n + 8) cc)) = (am_row (am_row h 2 (cl_ad (cl_ad (cl_ad (h 2) n a) (n + 4) b) (n + 8) cc)) 1 (upd (upd (h 1) 1 (nI (n + 4))) 1 (nI ((n + 4) + 4)))) from am_row_s1 (by decide)]) ?_
    refine am_hp (show (am_row (am_row (am_row h 2 (cl_ad (cl_ad (cl_ad (h 2) n a) (n + 4) b) (n + 8) cc)) 1 (upd (upd (h 1) 1 (nI (n + 4))) 1 (nI ((n + 4) + 4)))) 1 (upd (upd (upd (h 1) 1 (nI (n + 4))) 1 (nI ((n + 4) + 4))) 1 (nI ((n + 8) + 4)))) = (am_row (am_row h 2 (cl_ad (cl_ad (cl_ad (h 2) n a) (n + 4) b) (n + 8) cc)) 1 (upd (upd (upd (h 1) 1 (nI (n + 4))) 1 (nI ((n + 4) + 4))) 1 (nI ((n + 8) + 4)))) from am_row_s0) ?_
    refine am_aload_n (pc := 42) C dX11_feed_42 rfl ?_
    refine am_getR (pc := 43) (j := 1) C dX11_feed_43 f11_10 bn_0 sh_0 (rf_0_0 hR) ?_
    refine am_iload (pc := 46) C dX11_feed_46 rfl ?_
    refine am_callVv (Y := mX8_addNumber) (pc := 48) (st := []) (As := [.int d]) (h2 := (am_row (am_row (am_row (am_row h 2 (cl_ad (cl_ad (cl_ad (h 2) n a) (n + 4) b) (n + 8) cc)) 1 (upd (upd (upd (h 1) 1 (nI (n + 4))) 1 (nI ((n + 4) + 4))) 1 (nI ((n + 8) + 4)))) 2 (cl_ad (cl_ad (cl_ad (cl_ad (h 2) n a) (n + 4) b) (n + 8) cc) (n + 12) d)) 1 (upd (upd (upd (upd (h 1) 1 (nI (n + 4))) 1 (nI ((n + 4) + 4))) 1 (nI ((n + 8) + 4))) 1 (nI ((n + 12) + 4))))) C dX11_feed_48 k11_107 v_X8_addNumber rfl rfl bn_1 sh_1 ⟨by decide, rfl⟩ (by decide) (Nat.zero_le _) (Nat.zero_le _) (Nat.le_of_ble_eq_true rfl) (c_X8_addNumber hR d (n + 12) (show (upd (upd (upd (h 1) 1 (nI (n + 4))) 1 (nI ((n + 4) + 4))) 1 (nI ((n + 8) + 4))) 1 = nI (n + 12) from (by first | exact hn | exact rf_upd_eq)) (show (n + 12) + 4 ≤ 400 from (by omega))) ?_
    refine am_hp (show (am_row (am_row (am_row (am_row h 2 (cl_ad (cl_ad (cl_ad (h 2) n a) (n + 4) b) (n + 8) cc)) 1 (upd (upd (upd (h 1) 1 (nI (n + 4))) 1 (nI ((n + 4) + 4))) 1 (nI ((n + 8) + 4)))) 2 (cl_ad (cl_ad (cl_ad (cl_ad (h 2) n a) (n + 4) b) (n + 8) cc) (n + 12) d)) 1 (upd (upd (upd (upd (h 1) 1 (nI (n + 4))) 1 (nI ((n + 4) + 4))) 1 (nI ((n + 8) + 4))) 1 (nI ((n + 12) + 4)))) = (am_row (am_row (am_row h 2 (cl_ad (cl_ad (cl_ad (cl_ad (h 2) n a) (n + 4) b) (n + 8) cc) (n + 12) d)) 1 (upd (upd (upd (h 1) 1 (nI (n + 4))) 1 (nI ((n + 4) + 4))) 1 (nI ((n + 8) + 4)))) 1 (upd (upd (upd (upd (h 1) 1 (nI (n + 4))) 1 (nI ((n + 4) + 4))) 1 (nI ((n + 8) + 4))) 1 (nI ((n + 12) + 4)))) from by rw [show (am_row (am_row (am_row h 2 (cl_ad (cl_ad (cl_ad (h 2) n a) (n + 4) b) (n + 8) cc)) 1 (upd (upd (upd (h 1) 1 (nI (n + 4))) 1 (nI ((n + 4) + 4))) 1 (nI ((n + 8) + 4)))) 2 (cl_ad (cl_ad (cl_ad (cl_ad (h 2) n a) (n + 4) b) (n + 8) cc) (n + 12) d)) = (am_row (am_row h 2 (cl_ad (cl_ad (cl_ad (cl_ad (h 2) n a) (n + 4) b) (n + 8) cc) (n + 12) d)) 1 (upd (upd (upd (h 1) 1 (nI (n + 4))) 1 (nI ((n + 4) + 4))) 1 (nI ((n + 8) + 4)))) from am_row_s1 (by decide)]) ?_
    refine am_hp (show (am_row (am_row (am_row h 2 (cl_ad (cl_ad (cl_ad (cl_ad (h 2) n a) (n + 4) b) (n + 8) cc) (n + 12) d)) 1 (upd (upd (upd (h 1) 1 (nI (n + 4))) 1 (nI ((n + 4) + 4))) 1 (nI ((n + 8) + 4)))) 1 (upd (upd (upd (upd (h 1) 1 (nI (n + 4))) 1 (nI ((n + 4) + 4))) 1 (nI ((n + 8) + 4))) 1 (nI ((n + 12) + 4)))) = (am_row (am_row h 2 (cl_ad (cl_ad (cl_ad (cl_ad (h 2) n a) (n + 4) b) (n + 8) cc) (n + 12) d)) 1 (upd (upd (upd (upd (h 1) 1 (nI (n + 4))) 1 (nI ((n + 4) + 4))) 1 (nI ((n + 8) + 4))) 1 (nI ((n + 12) + 4)))) from am_row_s0) ?_
    refine am_aload_n (pc := 51) C dX11_feed_51 rfl ?_
    refine am_getR (pc := 52) (j := 1) C dX11_feed_52 f11_10 bn_0 sh_0 (rf_0_0 hR) ?_
    refine am_iload (pc := 55) C dX11_feed_55 rfl ?_
    refine am_callVv (Y := mX8_addNumber) (pc := 57) (st := []) (As := [.int e]) (h2 := (am_row (am_row (am_row (am_row h 2 (cl_ad (cl_ad (cl_ad (cl_ad (h 2) n a) (n + 4) b) (n + 8) cc) (n + 12) d)) 1 (upd (upd (upd (upd (h 1) 1 (nI (n + 4))) 1 (nI ((n + 4) + 4))) 1 (nI ((n + 8) + 4))) 1 (nI ((n + 12) + 4)))) 2 (cl_ad (cl_ad (cl_ad (cl_ad (cl_ad (h 2) n a) (n + 4) b) (n + 8) cc) (n + 12) d) (n + 16) e)) 1 (upd (upd (upd (upd (upd (h 1) 1 (nI (n + 4))) 1 (nI ((n + 4) + 4))) 1 (nI ((n + 8) + 4))) 1 (nI ((n + 12) + 4))) 1 (nI ((n + 16) + 4))))) C dX11_feed_57 k11_107 v_X8_addNumber rfl rfl bn_1 sh_1 ⟨by decide, rfl⟩ (by decide) (Nat.zero_le _) (Nat.zero_le _) (Nat.le_of_ble_eq_true rfl) (c_X8_addNumber hR e (n + 16) (show (upd (upd (upd (upd (h 1) 1 (nI (n + 4))) 1 (nI ((n + 4) + 4))) 1 (nI ((n + 8) + 4))) 1 (nI ((n + 12) + 4))) 1 = nI (n + 16) from (by first | exact hn | exact rf_upd_eq)) (show (n + 16) + 4 ≤ 400 from (by omega))) ?_
    refine am_hp (show (am_row (am_row (am_row (am_row h 2 (cl_ad (cl_ad (cl_ad (cl_ad (h 2) n a) (n + 4) b) (n + 8) cc) (n + 12) d)) 1 (upd (upd (upd (upd (h 1) 1 (nI (n + 4))) 1 (nI ((n + 4) + 4))) 1 (nI ((n + 8) + 4))) 1 (nI ((n + 12) + 4)))) 2 (cl_ad (cl_ad (cl_ad (cl_ad (cl_ad (h 2) n a) (n + 4) b) (n + 8) cc) (n + 12) d) (n + 16) e)) 1 (upd (upd (upd (upd (upd (h 1) 1 (nI (n + 4))) 1 (nI ((n + 4) + 4))) 1 (nI ((n + 8) + 4))) 1 (nI ((n + 12) + 4))) 1 (nI ((n + 16) + 4)))) = (am_row (am_row (am_row h 2 (cl_ad (cl_ad (cl_ad (cl_ad (cl_ad (h 2) n a) (n + 4) b) (n + 8) cc) (n + 12) d) (n + 16) e)) 1 (upd (upd (upd (upd (h 1) 1 (nI (n + 4))) 1 (nI ((n + 4) + 4))) 1 (nI ((n + 8) + 4))) 1 (nI ((n + 12) + 4)))) 1 (upd (upd (upd (upd (upd (h 1) 1 (nI (n + 4))) 1 (nI ((n + 4) + 4))) 1 (nI ((n + 8) + 4))) 1 (nI ((n + 12) + 4))) 1 (nI ((n + 16) + 4)))) from by rw [show (am_row (am_row (am_row h 2 (cl_ad (cl_ad (cl_ad (cl_ad (h 2) n a) (n + 4) b) (n + 8) cc) (n + 12) d)) 1 (upd (upd (upd (upd (h 1) 1 (nI (n + 4))) 1 (nI ((n + 4) + 4))) 1 (nI ((n + 8) + 4))) 1 (nI ((n + 12) + 4)))) 2 (cl_ad (cl_ad (cl_ad (cl_ad (cl_ad (h 2) n a) (n + 4) b) (n + 8) cc) (n + 12) d) (n + 16) e)) = (am_row (am_row h 2 (cl_ad (cl_ad (cl_ad (cl_ad (cl_ad (h 2) n a) (n + 4) b) (n + 8) cc) (n + 12) d) (n + 16) e)) 1 (upd (upd (upd (upd (h 1) 1 (nI (n + 4))) 1 (nI ((n + 4) + 4))) 1 (nI ((n + 8) + 4))) 1 (nI ((n + 12) + 4)))) from am_row_s1 (by decide)]) ?_
    refine am_hp (show (am_row (am_row (am_row h 2 (cl_ad (cl_ad (cl_ad (cl_ad (cl_ad (h 2) n a) (n + 4) b) (n + 8) cc) (n + 12) d) (n + 16) e)) 1 (upd (upd (upd (upd (h 1) 1 (nI (n + 4))) 1 (nI ((n + 4) + 4))) 1 (nI ((n + 8) + 4))) 1 (nI ((n + 12) + 4)))) 1 (upd (upd (upd (upd (upd (h 1) 1 (nI (n + 4))) 1 (nI ((n + 4) + 4))) 1 (nI ((n + 8) + 4))) 1 (nI ((n + 12) + 4))) 1 (nI ((n + 16) + 4)))) = (am_row (am_row h 2 (cl_ad (cl_ad (cl_ad (cl_ad (cl_ad (h 2) n a) (n + 4) b) (n + 8) cc) (n + 12) d) (n + 16) e)) 1 (upd (upd (upd (upd (upd (h 1) 1 (nI (n + 4))) 1 (nI ((n + 4) + 4))) 1 (nI ((n + 8) + 4))) 1 (nI ((n + 12) + 4))) 1 (nI ((n + 16) + 4)))) from am_row_s0) ?_
    refine am_aload_n (pc := 60) C dX11_feed_60 rfl ?_
    refine am_getR (pc := 61) (j := 1) C dX11_feed_61 f11_10 bn_0 sh_0 (rf_0_0 hR) ?_
    refine am_getI (pc := 64) C dX11_feed_64 f11_104 bn_1 sh_1 ?_
    refine am_top (show ((upd (upd (upd (upd (upd (h 1) 1 (nI (n + 4))) 1 (nI ((n + 4) + 4))) 1 (nI ((n + 8) + 4))) 1 (nI ((n + 12) + 4))) 1 (nI ((n + 16) + 4))) 1) = (nI ((n + 16) + 4)) from rf_upd_eq) ?_
    exact am_iretir T dX11_feed_67 rfl (Nat.le_refl _) (Nat.le_refl _) (by rw [if_pos (by omega)]) rfl (by rw [if_pos (by omega)]; simp only [rf_upd_upd])
  · skip
    refine am_iconst (pc := 16) (v := -1) C dX11_feed_16 rfl ?_
    exact am_iretir T dX11_feed_17 rfl (Nat.le_refl _) (Nat.le_refl _) (by rw [if_neg (by omega)]) rfl (by rw [if_neg (by omega)])

set_option maxHeartbeats 400000 in
set_option maxRecDepth 100000 in
theorem c_X11_end {ad : Nat → Nat} {r : am_R} (hR : am_rs r) {h : am_H} (n : Int32) (w : rf_W) (hV : rf_I w) (hLo : cl_Lo (h) 4 w) (hSc : cl_Sc (h) 25 w) (oc : rf_W) (hz : (h 1) 1 = oc 9)  : am_CM mX11_end 7 0 0 [.ref 0, .int n] (am_VV ad) r h (am_pr (some (.int (am_b ((rf_end oc n).1)))) r (fun c9 => c9 = if (rf_end oc n).1 = true then am_row (h) 1 (upd (h 1) 1 n) else (h))) := by
  refine am_CM.of (by decide +kernel) (Nat.le_of_ble_eq_true rfl) (fun X C T => ?_)
  show am_G X (am_VV ad) (0, 0) 0 [(0, .ref 0), (1, .int n)] [] r h
  have hM9 : rf_M w < 17 := hV.1.1.2
  have hS9 : rf_S w < 11 := hV.1.2.1.2
  have hO9 : rf_O w < 11 := hV.1.2.2.2
  refine am_iload_n (pc := 0) C dX11_end_0 rfl ?_
  refine am_if_lt (pc := 1) (tgt := 15) C dX11_end_1 (by decide) (fun q1 => ?_) (fun q1 => ?_)
  · skip
    refine am_iconstN (pc := 15) (k := 0) C dX11_end_15 ?_
    exact am_iretbr T dX11_end_16 rfl (Nat.le_refl _) (Nat.le_refl _) (by rw [rf_end, if_pos q1]; rfl) rfl (by rw [if_neg (by rw [rf_end, if_pos q1]; exact Bool.false_ne_true)])
  · skip
    refine am_iload_n (pc := 4) C dX11_end_4 rfl ?_
    refine am_aload_n (pc := 5) C dX11_end_5 rfl ?_
    refine am_getR (pc := 6) (j := 1) C dX11_end_6 f11_10 bn_0 sh_0 (rf_0_0 hR) ?_
    refine am_getI (pc := 9) C dX11_end_9 f11_104 bn_1 sh_1 ?_
    refine am_icmp_le (pc := 12) (tgt := 17) C dX11_end_12 (by decide) (fun q12 => ?_) (fun q12 => ?_)
    · skip
      refine am_aload_n (pc := 17) C dX11_end_17 rfl ?_
      refine am_getR (pc := 18) (j := 1) C dX11_end_18 f11_10 bn_0 sh_0 (rf_0_0 hR) ?_
      refine am_iload_n (pc := 21) C dX11_end_21 rfl ?_
      refine am_putI (pc := 22) C dX11_end_22 f11_104 bn_1 sh_1 rfl rfl ?_
      refine am_hp (show am_up h 1 1 n = am_row h 1 (upd (h 1) 1 n) from am_up_rw _ _ _ _) ?_
      refine am_iconstN (pc := 25) (k := 1) C dX11_end_25 ?_
      exact am_iretbr T dX11_end_26 rfl (Nat.le_refl _) (Nat.le_refl _) (by rw [rf_end, if_neg q1, if_pos (by rw [← hz]; exact q12)]; rfl) rfl (by rw [if_pos (by rw [rf_end, if_neg q1, if_pos (by rw [← hz]; exact q12)])])
    · skip
      refine am_iconstN (pc := 15) (k := 0) C dX11_end_15 ?_
      exact am_iretbr T dX11_end_16 rfl (Nat.le_refl _) (Nat.le_refl _) (by rw [rf_end, if_neg q1, if_neg (by rw [← hz]; exact q12)]; rfl) rfl (by rw [if_neg (by rw [rf_end, if_neg q1, if_neg (by rw [← hz]; exact q12)]; exact Bool.false_ne_true)])

