/-! THE CLASS: one learns, one forgets, the field, the log -/
section M21
def cl_fr (h c : am_H) (b n : Nat) : Prop := ∀ i, (i < b ∨ b + n ≤ i) → c i = h i
theorem cl_La_eq {h h' : am_H} {b : Nat} {w : rf_W} (e : ∀ i, b ≤ i → i ≤ b + 5 → h' i = h i) (L : cl_La h b w) : cl_La h' b w := by
  unfold cl_La
  rw [e b (by omega) (by omega), e (b + 1) (by omega) (by omega), e (b + 2) (by omega) (by omega), e (b + 3) (by omega) (by omega), e (b + 4) (by omega) (by omega), e (b + 5) (by omega) (by omega)]
  exact L
theorem am_hp2 {X : am_X} {V : am_V} {cs cs2 : Nat × Nat} {pc pc2 : Nat} {ls ls2 : List (Nat × Value)} {st st2 : List Value} {r r2 : am_R} {h h1 h2 : am_H} (f : am_G X V cs2 pc2 ls2 st2 r2 h1 → am_G X V cs pc ls st r h) (e : h1 = h2) (k : am_G X V cs2 pc2 ls2 st2 r2 h2) : am_G X V cs pc ls st r h := f (by rw [e]; exact k)
/-- one learns what can be learnt of a set, from the least on -/
def rf_la (w : rf_W) (s : Nat) (set : Int32) : Nat → rf_W
  | 0 => w
  | m + 1 => if am_bt set m = true ∧ rf_can (rf_la w s set m) s m = true then rf_learn (rf_la w s set m) s m else rf_la w s set m
theorem rf_la_y {w : rf_W} {s m : Nat} {set : Int32} (h : am_bt set m = true ∧ rf_can (rf_la w s set m) s m = true) : rf_la w s set (m + 1) = rf_learn (rf_la w s set m) s m := by rw [rf_la, if_pos h]
theorem rf_la_n {w : rf_W} {s m : Nat} {set : Int32} (h : ¬ (am_bt set m = true ∧ rf_can (rf_la w s set m) s m = true)) : rf_la w s set (m + 1) = rf_la w s set m := by rw [rf_la, if_neg h]
theorem rf_Es_learn {w : rf_W} {s m : Nat} (hs : s < 10) (hk : rf_kn w s < 13) : rf_Es w (rf_learn w s m) := by
  rw [rf_learn]
  cases hc : rf_can w s m with
  | false => exact rf_Es.rf
  | true =>
    have hc2 := hc
    simp only [rf_can, Bool.and_eq_true, decide_eq_true_eq, Bool.not_eq_true'] at hc2
    refine (rf_Es_app hs hc2.2.1).tr ⟨fun a ha => rf_upd_ne (by omega), fun t k ht hk => rf_upd_ne (by omega)⟩
theorem rf_la_ok {w : rf_W} {s : Nat} {set : Int32} (hI : rf_I w) (hs : s < rf_S w) : ∀ m, m ≤ rf_M w → rf_I (rf_la w s set m) ∧ rf_Es w (rf_la w s set m)
  | 0, _ => ⟨hI, rf_Es.rf⟩
  | m + 1, hm => by
    obtain ⟨a, b⟩ := rf_la_ok (set := set) hI hs m (by omega)
    have hS : rf_S w < 11 := hI.1.2.1.2
    have hs2 : s < rf_S (rf_la w s set m) := by rw [b.S]; exact hs
    rw [rf_la]
    split
    · exact ⟨rf_I_learn a hs2 (by rw [b.M]; omega), b.tr (rf_Es_learn (by omega) (a.2.1 s hs2).2.2.2.2.1.2)⟩
    · exact ⟨a, b⟩
end M21

set_option maxHeartbeats 400000 in
set_option maxRecDepth 100000 in
theorem c_X5_append {ad : Nat → Nat} {r : am_R} (hR : am_rs r) {h : am_H} (s : Nat) (m : Nat) (w : rf_W) (hV : rf_I w) (hSc : cl_Sc (h) 25 w) (hs : s < rf_S w) (hk : rf_kn w s < 12) (hm : m < 32)  : am_CM mX5_append 1 0 0 [.ref 25, .int (nI s), .int (nI m)] (am_VV ad) r h (am_po none r (am_row (am_row (am_row h 31 (upd (h 31) (s * 12 + rf_kn w s) (nI m))) 28 (upd (h 28) s (nI (rf_kn w s + 1)))) 29 (upd (h 29) s (rf_known w s ||| (nI 1 <<< (nI m &&& 31)))))) := by
  refine am_CM.of (by decide +kernel) (Nat.le_of_ble_eq_true rfl) (fun X C T => ?_)
  show am_G X (am_VV ad) (0, 0) 0 [(0, .ref 25), (1, .int (nI s)), (2, .int (nI m))] [] r h
  have hM9 : rf_M w < 17 := hV.1.1.2
  have hS9 : rf_S w < 11 := hV.1.2.1.2
  have hO9 : rf_O w < 11 := hV.1.2.2.2
  refine am_aload_n (pc := 0) C dX5_append_0 rfl ?_
  refine am_getR (pc := 1) (j := 28) C dX5_append_1 f5_22 bn_25 sh_25 (rf_25_7 hR) ?_
  refine am_iload_n (pc := 4) C dX5_append_4 rfl ?_
  refine am_callSNi (Y := mX11_pick) (pc := 5) (st := []) (As := [.ref 28, .int (nI s)]) (x := ((h 28) s)) (h2 := h) C dX5_append_5 k5_75 v_X11_pick rfl rfl (by decide) (Nat.zero_le _) (Nat.zero_le _) (Nat.le_of_ble_eq_true rfl) (c_X11_pick 28 s 10 bn_28 sh_28 (show s < 10 from by omega) (by decide)) ?_
  refine am_top (show ((h 28) s) = (nI (rf_kn w s)) from ((hSc.2.1 s (by omega)).2.2.1.trans (hV.2.1 s (by omega)).2.2.2.2.1.1)) ?_
  refine am_istore_n (pc := 8) (ls' := [(0, .ref 25), (1, .int (nI s)), (2, .int (nI m)), (3, .int (nI (rf_kn w s)))]) C dX5_append_8 (by decide) rfl ?_
  refine am_iload_n (pc := 9) C dX5_append_9 rfl ?_
  refine am_bipush (pc := 10) (v := nI 12) C dX5_append_10 (by decide) ?_
  refine am_icmp_geN (pc := 12) (tgt := 60) C dX5_append_12 (by decide) (by omega) (by omega) (fun q12 => ?_) (fun q12 => ?_)
  · skip
    exact absurd q12 (by omega)
  · skip
    refine am_aload_n (pc := 15) C dX5_append_15 rfl ?_
    refine am_getR (pc := 16) (j := 31) C dX5_append_16 f5_31 bn_25 sh_25 (rf_25_10 hR) ?_
    refine am_iload_n (pc := 19) C dX5_append_19 rfl ?_
    refine am_bipush (pc := 20) (v := nI 12) C dX5_append_20 (by decide) ?_
    refine am_imulN (pc := 22) C dX5_append_22 ?_
    refine am_iload_n (pc := 23) C dX5_append_23 rfl ?_
    refine am_iaddN (pc := 24) C dX5_append_24 ?_
    refine am_iload_n (pc := 25) C dX5_append_25 rfl ?_
    refine am_callSNv (Y := mX11_put) (pc := 26) (st := []) (As := [.ref 31, .int (nI ((s * 12) + (rf_kn w s))), .int (nI m)]) (h2 := (am_row h 31 (upd (h 31) ((s * 12) + (rf_kn w s)) (nI m)))) C dX5_append_26 k5_79 v_X11_put rfl rfl (by decide) (Nat.zero_le _) (Nat.zero_le _) (Nat.le_of_ble_eq_true rfl) (c_X11_put 31 ((s * 12) + (rf_kn w s)) (nI m) 120 bn_31 sh_31 (show (s * 12) + (rf_kn w s) < 120 from by omega) (by decide)) ?_
    refine am_aload_n (pc := 29) C dX5_append_29 rfl ?_
    refine am_getR (pc := 30) (j := 28) C dX5_append_30 f5_22 bn_25 sh_25 (rf_25_7 hR) ?_
    refine am_iload_n (pc := 33) C dX5_append_33 rfl ?_
    refine am_iload_n (pc := 34) C dX5_append_34 rfl ?_
    refine am_iconstN (pc := 35) (k := 1) C dX5_append_35 ?_
    refine am_iaddN (pc := 36) C dX5_append_36 ?_
    refine am_callSNv (Y := mX11_put) (pc := 37) (st := []) (As := [.ref 28, .int (nI s), .int (nI ((rf_kn w s) + 1))]) (h2 := (am_row (am_row h 31 (upd (h 31) ((s * 12) + (rf_kn w s)) (nI m))) 28 (upd (h 28) s (nI ((rf_kn w s) + 1))))) C dX5_append_37 k5_79 v_X11_put rfl rfl (by decide) (Nat.zero_le _) (Nat.zero_le _) (Nat.le_of_ble_eq_true rfl) (c_X11_put 28 s (nI ((rf_kn w s) + 1)) 10 bn_28 sh_28 (show s < 10 from by omega) (by decide)) ?_
    refine am_aload_n (pc := 40) C dX5_append_40 rfl ?_
    refine am_getR (pc := 41) (j := 29) C dX5_append_41 f5_25 bn_25 sh_25 (rf_25_8 hR) ?_
    refine am_iload_n (pc := 44) C dX5_append_44 rfl ?_
    refine am_aload_n (pc := 45) C dX5_append_45 rfl ?_
    refine am_getR (pc := 46) (j := 29) C dX5_append_46 f5_25 bn_25 sh_25 (rf_25_8 hR) ?_
    refine am_iload_n (pc := 49) C dX5_append_49 rfl ?_
    refine am_callSNi (Y := mX11_pick) (pc := 50) (st := [.int (nI s), .ref 29]) (As := [.ref 29, .int (nI s)]) (x := ((h 29) s)) (h2 := (am_row (am_row h 31 (upd (h 31) ((s * 12) + (rf_kn w s)) (nI m))) 28 (upd (h 28) s (nI ((rf_kn w s) + 1))))) C dX5_append_50 k5_75 v_X11_pick rfl rfl (by decide) (Nat.zero_le _) (Nat.zero_le _) (Nat.le_of_ble_eq_true rfl) (c_X11_pick 29 s 10 bn_29 sh_29 (show s < 10 from by omega) (by decide)) ?_
    refine am_top (show ((h 29) s) = (rf_known w s) from (hSc.2.1 s (by omega)).2.2.2.1) ?_
    refine am_iconstN (pc := 53) (k := 1) C dX5_append_53 ?_
    refine am_iload_n (pc := 54) C dX5_append_54 rfl ?_
    refine am_ishl (pc := 55) C dX5_append_55 ?_
    refine am_ior (pc := 56) C dX5_append_56 ?_
    refine am_callSNv (Y := mX11_put) (pc := 57) (st := []) (As := [.ref 29, .int (nI s), .int ((rf_known w s) ||| ((nI 1) <<< ((nI m) &&& 31)))]) (h2 := (am_row (am_row (am_row h 31 (upd (h 31) ((s * 12) + (rf_kn w s)) (nI m))) 28 (upd (h 28) s (nI ((rf_kn w s) + 1)))) 29 (upd (h 29) s ((rf_known w s) ||| ((nI 1) <<< ((nI m) &&& 31)))))) C dX5_append_57 k5_79 v_X11_put rfl rfl (by decide) (Nat.zero_le _) (Nat.zero_le _) (Nat.le_of_ble_eq_true rfl) (c_X11_put 29 s ((rf_known w s) ||| ((nI 1) <<< ((nI m) &&& 31))) 10 bn_29 sh_29 (show s < 10 from by omega) (by decide)) ?_
    exact am_vretv T dX5_append_60 rfl (Nat.le_refl _) (Nat.le_refl _) rfl rfl

set_option maxHeartbeats 400000 in
set_option maxRecDepth 100000 in
theorem c_X10_addKnown {ad : Nat → Nat} {r : am_R} (hR : am_rs r) {h : am_H} (s : Nat) (m : Nat) (w : rf_W) (hV : rf_I w) (hLo : cl_Lo (h) 4 w) (hSc : cl_Sc (h) 25 w) (hs : s < rf_S w) (hk : rf_kn w s < 12) (hm : m < 32)  : am_CM mX10_addKnown 2 0 0 [.ref 3, .int (nI s), .int (nI m)] (am_VV ad) r h (am_po none r (am_row (am_row (am_row (am_row h 31 (upd (h 31) (s * 12 + rf_kn w s) (nI m))) 28 (upd (h 28) s (nI (rf_kn w s + 1)))) 29 (upd (h 29) s (rf_known w s ||| (nI 1 <<< (nI m &&& 31))))) 30 (upd (h 30) s (rf_usable w (rf_known w s ||| (nI 1 <<< (nI m &&& 31))))))) := by
  refine am_CM.of (by decide +kernel) (Nat.le_of_ble_eq_true rfl) (fun X C T => ?_)
  show am_G X (am_VV ad) (0, 0) 0 [(0, .ref 3), (1, .int (nI s)), (2, .int (nI m))] [] r h
  have hM9 : rf_M w < 17 := hV.1.1.2
  have hS9 : rf_S w < 11 := hV.1.2.1.2
  have hO9 : rf_O w < 11 := hV.1.2.2.2
  refine am_aload_n (pc := 0) C dX10_addKnown_0 rfl ?_
  refine am_getR (pc := 1) (j := 25) C dX10_addKnown_1 f10_22 bn_3 sh_3 (rf_3_2 hR) ?_
  refine am_iload_n (pc := 4) C dX10_addKnown_4 rfl ?_
  refine am_iload_n (pc := 5) C dX10_addKnown_5 rfl ?_
  refine am_callVv (Y := mX5_append) (pc := 6) (st := []) (As := [.int (nI s), .int (nI m)]) (h2 := (am_row (am_row (am_row h 31 (upd (h 31) (s * 12 + rf_kn w s) (nI m))) 28 (upd (h 28) s (nI (rf_kn w s + 1)))) 29 (upd (h 29) s (rf_known w s ||| (nI 1 <<< (nI m &&& 31)))))) C dX10_addKnown_6 k10_71 v_X5_append rfl rfl bn_25 sh_25 ⟨by decide, rfl⟩ (by decide) (Nat.zero_le _) (Nat.zero_le _) (Nat.le_of_ble_eq_true rfl) (c_X5_append hR s m w hV hSc hs hk hm) ?_
  refine am_aload_n (pc := 9) C dX10_addKnown_9 rfl ?_
  refine am_getR (pc := 10) (j := 25) C dX10_addKnown_10 f10_22 bn_3 sh_3 (rf_3_2 hR) ?_
  refine am_getR (pc := 13) (j := 30) C dX10_addKnown_13 f10_64 bn_25 sh_25 (rf_25_9 hR) ?_
  refine am_iload_n (pc := 16) C dX10_addKnown_16 rfl ?_
  refine am_aload_n (pc := 17) C dX10_addKnown_17 rfl ?_
  refine am_getR (pc := 18) (j := 4) C dX10_addKnown_18 f10_9 bn_3 sh_3 (rf_3_0 hR) ?_
  refine am_aload_n (pc := 21) C dX10_addKnown_21 rfl ?_
  refine am_getR (pc := 22) (j := 25) C dX10_addKnown_22 f10_22 bn_3 sh_3 (rf_3_2 hR) ?_
  refine am_getR (pc := 25) (j := 29) C dX10_addKnown_25 f10_61 bn_25 sh_25 (rf_25_8 hR) ?_
  refine am_iload_n (pc := 28) C dX10_addKnown_28 rfl ?_
  refine am_callSNi (Y := mX11_pick) (pc := 29) (st := [.ref 4, .int (nI s), .ref 30]) (As := [.ref 29, .int (nI s)]) (x := ((upd (h 29) s (rf_known w s ||| (nI 1 <<< (nI m &&& 31)))) s)) (h2 := (am_row (am_row (am_row h 31 (upd (h 31) (s * 12 + rf_kn w s) (nI m))) 28 (upd (h 28) s (nI (rf_kn w s + 1)))) 29 (upd (h 29) s (rf_known w s ||| (nI 1 <<< (nI m &&& 31)))))) C dX10_addKnown_29 k10_54 v_X11_pick rfl rfl (by decide) (Nat.zero_le _) (Nat.zero_le _) (Nat.le_of_ble_eq_true rfl) (c_X11_pick 29 s 10 bn_29 sh_29 (show s < 10 from by omega) (by decide)) ?_
  refine am_top (show ((upd (h 29) s (rf_known w s ||| (nI 1 <<< (nI m &&& 31)))) s) = (rf_known w s ||| (nI 1 <<< (nI m &&& 31))) from rf_upd_eq) ?_
  refine am_callVi (Y := mX3_usableOf) (pc := 32) (st := [.int (nI s), .ref 30]) (As := [.int (rf_known w s ||| (nI 1 <<< (nI m &&& 31)))]) (x := (rf_usable w (rf_known w s ||| (nI 1 <<< (nI m &&& 31))))) (h2 := (am_row (am_row (am_row h 31 (upd (h 31) (s * 12 + rf_kn w s) (nI m))) 28 (upd (h 28) s (nI (rf_kn w s + 1)))) 29 (upd (h 29) s (rf_known w s ||| (nI 1 <<< (nI m &&& 31)))))) C dX10_addKnown_32 k10_75 v_X3_usableOf rfl rfl bn_4 sh_4 ⟨by decide, rfl⟩ (by decide) (Nat.zero_le _) (Nat.zero_le _) (Nat.le_of_ble_eq_true rfl) (c_X3_usableOf hR (rf_known w s ||| (nI 1 <<< (nI m &&& 31))) w hV (cl_Lo_eq (fun i9 h9 g9 => by rw [am_row_ne _ _ _ (by omega), am_row_ne _ _ _ (by omega), am_row_ne _ _ _ (by omega)]) hLo)) ?_
  refine am_callSNv (Y := mX11_put) (pc := 35) (st := []) (As := [.ref 30, .int (nI s), .int (rf_usable w (rf_known w s ||| (nI 1 <<< (nI m &&& 31))))]) (h2 := (am_row (am_row (am_row (am_row h 31 (upd (h 31) (s * 12 + rf_kn w s) (nI m))) 28 (upd (h 28) s (nI (rf_kn w s + 1)))) 29 (upd (h 29) s (rf_known w s ||| (nI 1 <<< (nI m &&& 31))))) 30 (upd (h 30) s (rf_usable w (rf_known w s ||| (nI 1 <<< (nI m &&& 31))))))) C dX10_addKnown_35 k10_44 v_X11_put rfl rfl (by decide) (Nat.zero_le _) (Nat.zero_le _) (Nat.le_of_ble_eq_true rfl) (c_X11_put 30 s (rf_usable w (rf_known w s ||| (nI 1 <<< (nI m &&& 31)))) 10 bn_30 sh_30 (show s < 10 from by omega) (by decide)) ?_
  exact am_vretv T dX10_addKnown_38 rfl (Nat.le_refl _) (Nat.le_refl _) rfl rfl

set_option maxHeartbeats 400000 in
set_option maxRecDepth 100000 in
theorem c_X10_learn {ad : Nat → Nat} {r : am_R} (hR : am_rs r) {h : am_H} (s : Nat) (m : Nat) (w : rf_W) (hV : rf_I w) (hLo : cl_Lo (h) 4 w) (hSc : cl_Sc (h) 25 w) (hs : s < rf_S w) (hm : m < rf_M w) (hcan : rf_can w s m = true)  : am_CM mX10_learn 3 0 0 [.ref 3, .int (nI s), .int (nI m)] (am_VV ad) r h (am_pr none r (fun c9 => cl_Sc c9 25 (rf_learn w s m) ∧ cl_fr (h) c9 25 15)) := by
  refine am_CM.of (by decide +kernel) (Nat.le_of_ble_eq_true rfl) (fun X C T => ?_)
  show am_G X (am_VV ad) (0, 0) 0 [(0, .ref 3), (1, .int (nI s)), (2, .int (nI m))] [] r h
  have hM9 : rf_M w < 17 := hV.1.1.2
  have hS9 : rf_S w < 11 := hV.1.2.1.2
  have hO9 : rf_O w < 11 := hV.1.2.2.2
  have hcn := hcan
  simp only [rf_can, Bool.and_eq_true, decide_eq_true_eq, Bool.not_eq_true'] at hcn
  obtain ⟨hkn, hk12, -⟩ := hcn
  have h8 : rf_app w s m 8 = w 8 := by rw [rf_app, rf_upd_ne (by omega), rf_upd_ne (by omega)]
  refine am_aload_n (pc := 0) C dX10_learn_0 rfl ?_
  refine am_iload_n (pc := 1) C dX10_learn_1 rfl ?_
  refine am_iload_n (pc := 2) C dX10_learn_2 rfl ?_
  refine am_callVv (Y := mX10_addKnown) (pc := 3) (st := []) (As := [.int (nI s), .int (nI m)]) (h2 := (am_row (am_row (am_row (am_row h 31 (upd (h 31) (s * 12 + rf_kn w s) (nI m))) 28 (upd (h 28) s (nI (rf_kn w s + 1)))) 29 (upd (h 29) s (rf_known w s ||| (nI 1 <<< (nI m &&& 31))))) 30 (upd (h 30) s (rf_usable w (rf_known w s ||| (nI 1 <<< (nI m &&& 31))))))) C dX10_learn_3 k10_97 v_X10_addKnown rfl rfl bn_3 sh_3 ⟨by decide, rfl⟩ (by decide) (Nat.zero_le _) (Nat.zero_le _) (Nat.le_of_ble_eq_true rfl) (c_X10_addKnown hR s m w hV hLo hSc hs (show rf_kn w s < 12 from by omega) (show m < 32 from by omega)) ?_
  have S1 : cl_Sc ((am_row (am_row (am_row (am_row h 31 (upd (h 31) (s * 12 + rf_kn w s) (nI m))) 28 (upd (h 28) s (nI (rf_kn w s + 1)))) 29 (upd (h 29) s (rf_known w s ||| (nI 1 <<< (nI m &&& 31))))) 30 (upd (h 30) s (rf_usable w (rf_known w s ||| (nI 1 <<< (nI m &&& 31))))))) 25 (rf_app w s m) := cl_Sc_app hV hs hk12 hm hSc rfl rfl rfl rfl rfl rfl rfl (fun i h7 g7 => by rw [am_row_ne _ _ _ (by omega), am_row_ne _ _ _ (by omega), am_row_ne _ _ _ (by omega), am_row_ne _ _ _ (by omega)])
  refine am_aload_n (pc := 6) C dX10_learn_6 rfl ?_
  refine am_getR (pc := 7) (j := 25) C dX10_learn_7 f10_22 bn_3 sh_3 (rf_3_2 hR) ?_
  refine am_dup (pc := 10) C dX10_learn_10 rfl ?_
  refine am_getI (pc := 11) C dX10_learn_11 f10_100 bn_25 sh_25 ?_
  refine am_top (show ((h 25) 3) = (w 8) from hSc.1.2.2.2.1) ?_
  refine am_iconstN (pc := 14) (k := 1) C dX10_learn_14 ?_
  refine am_iadd (pc := 15) C dX10_learn_15 ?_
  refine am_putI (pc := 16) C dX10_learn_16 f10_100 bn_25 sh_25 rfl rfl ?_
  refine am_hp (show am_up (am_row (am_row (am_row (am_row h 31 (upd (h 31) (s * 12 + rf_kn w s) (nI m))) 28 (upd (h 28) s (nI (rf_kn w s + 1)))) 29 (upd (h 29) s (rf_known w s ||| (nI 1 <<< (nI m &&& 31))))) 30 (upd (h 30) s (rf_usable w (rf_known w s ||| (nI 1 <<< (nI m &&& 31)))))) 25 3 ((w 8) + (nI 1)) = am_row (am_row (am_row (am_row (am_row h 31 (upd (h 31) (s * 12 + rf_kn w s) (nI m))) 28 (upd (h 28) s (nI (rf_kn w s + 1)))) 29 (upd (h 29) s (rf_known w s ||| (nI 1 <<< (nI m &&& 31))))) 30 (upd (h 30) s (rf_usable w (rf_known w s ||| (nI 1 <<< (nI m &&& 31)))))) 25 (upd (h 25) 3 ((w 8) + (nI 1))) from am_up_rw _ _ _ _) ?_
  exact am_vretvr T dX10_learn_19 rfl (Nat.le_refl _) (Nat.le_refl _) rfl ⟨by rw [rf_learn, hcan]; exact cl_Sc_num (rf_I_app hV hs hk12 hm hkn) S1 (Or.inr (Or.inr ⟨rfl, rfl⟩)) (by show upd (h 25) 3 (w 8 + nI 1) = upd (h 25) 3 (rf_app w s m 8 + nI 1); rw [h8]) (fun i h7 g7 => by rw [am_row_ne _ _ _ (by omega)]), (fun i9 h9 => by rw [am_row_ne _ _ _ (by omega), am_row_ne _ _ _ (by omega), am_row_ne _ _ _ (by omega), am_row_ne _ _ _ (by omega), am_row_ne _ _ _ (by omega)])⟩

set_option maxHeartbeats 400000 in
set_option maxRecDepth 100000 in
theorem c_X10_learnAll {ad : Nat → Nat} {r : am_R} (hR : am_rs r) {h : am_H} (s : Nat) (set : Int32) (w : rf_W) (hV : rf_I w) (hLo : cl_Lo (h) 4 w) (hSc : cl_Sc (h) 25 w) (hs : s < rf_S w)  : am_CM mX10_learnAll 4 0 0 [.ref 3, .int (nI s), .int set] (am_VV ad) r h (am_pr none r (fun c9 => cl_Sc c9 25 (rf_la w s set (rf_M w)) ∧ cl_fr (h) c9 25 15)) := by
  refine am_CM.of (by decide +kernel) (Nat.le_of_ble_eq_true rfl) (fun X C T => ?_)
  show am_G X (am_VV ad) (0, 0) 0 [(0, .ref 3), (1, .int (nI s)), (2, .int set)] [] r h
  have hM9 : rf_M w < 17 := hV.1.1.2
  have hS9 : rf_S w < 11 := hV.1.2.1.2
  have hO9 : rf_O w < 11 := hV.1.2.2.2
  refine am_iconstN (pc := 0) (k := 0) C dX10_learnAll_0 ?_
  refine am_istore_n (pc := 1) (ls' := [(0, .ref 3), (1, .int (nI s)), (2, .int set), (3, .int (nI 0))]) C dX10_learnAll_1 (by decide) rfl ?_
  have L2 : ∀ (j2 : Nat) (g : am_H) (m : Nat), (hmj : m + j2 = rf_M w) → (hS9 : cl_Sc g 25 (rf_la w s set m)) → (hF : cl_fr h g 25 15) → am_G X (am_VV ad) (0, 0) 2 [(0, .ref 3), (1, .int (nI s)), (2, .int set), (3, .int (nI m))] [] r g := by
    intro j2
    induction j2 with
    | zero =>
      intro g m hmj hS9 hF
      obtain ⟨laI, laE⟩ := rf_la_ok (set := set) hV hs m (by omega)
      have L9 := cl_Lo_Es hV laE (cl_Lo_eq (fun i h1 h2 => hF i (by omega)) hLo)
      refine am_iload_n (pc := 2) C dX10_learnAll_2 rfl ?_
      refine am_aload_n (pc := 3) C dX10_learnAll_3 rfl ?_
      refine am_getR (pc := 4) (j := 4) C dX10_learnAll_4 f10_9 bn_3 sh_3 (rf_3_0 hR) ?_
      refine am_getI (pc := 7) C dX10_learnAll_7 f10_129 bn_4 sh_4 ?_
      refine am_top (show ((g 4) 1) = (nI (rf_M (rf_la w s set m))) from (L9.1.2.1.trans laI.1.1.1)) ?_
      refine am_top (show (nI (rf_M (rf_la w s set m))) = (nI (rf_M w)) from (congrArg nI laE.M)) ?_
      refine am_icmp_geN (pc := 10) (tgt := 42) C dX10_learnAll_10 (by decide) (by omega) (by omega) (fun q10 => ?_) (fun q10 => ?_)
      · skip
        exact am_vretvr T dX10_learnAll_42 rfl (Nat.le_refl _) (Nat.le_refl _) rfl ⟨by rw [← show m = rf_M w by omega]; exact hS9, hF⟩
      · skip
        exact absurd hmj (by omega)
    | succ j2 ih2 =>
      intro g m hmj hS9 hF
      obtain ⟨laI, laE⟩ := rf_la_ok (set := set) hV hs m (by omega)
      have L9 := cl_Lo_Es hV laE (cl_Lo_eq (fun i h1 h2 => hF i (by omega)) hLo)
      have hMe := laE.M
      have hSe := laE.S
      refine am_iload_n (pc := 2) C dX10_learnAll_2 rfl ?_
      refine am_aload_n (pc := 3) C dX10_learnAll_3 rfl ?_
      refine am_getR (pc := 4) (j := 4) C dX10_learnAll_4 f10_9 bn_3 sh_3 (rf_3_0 hR) ?_
      refine am_getI (pc := 7) C dX10_learnAll_7 f10_129 bn_4 sh_4 ?_
      refine am_top (show ((g 4) 1) = (nI (rf_M (rf_la w s set m))) from (L9.1.2.1.trans laI.1.1.1)) ?_
      refine am_top (show (nI (rf_M (rf_la w s set m))) = (nI (rf_M w)) from (congrArg nI laE.M)) ?_
      refine am_icmp_geN (pc := 10) (tgt := 42) C dX10_learnAll_10 (by decide) (by omega) (by omega) (fun q10 => ?_) (fun q10 => ?_)
      · skip
        exact absurd q10 (by omega)
      · skip
        refine am_iload_n (pc := 13) C dX10_learnAll_13 rfl ?_
        refine am_iload_n (pc := 14) C dX10_learnAll_14 rfl ?_
        refine am_callSNi (Y := mX11_has) (pc := 15) (st := []) (As := [.int set, .int (nI m)]) (x := (am_b (am_bt set m))) (h2 := g) C dX10_learnAll_15 k10_67 v_X11_has rfl rfl (by decide) (Nat.zero_le _) (Nat.zero_le _) (Nat.le_of_ble_eq_true rfl) (c_X11_has set m (show m < 32 from by omega)) ?_
        refine am_if_eqB (pc := 18) (tgt := 36) C dX10_learnAll_18 (by decide) (fun q18 => ?_) (fun q18 => ?_)
        · skip
          refine am_iincN (pc := 36) (ls' := [(0, .ref 3), (1, .int (nI s)), (2, .int set), (3, .int (nI (m + 1)))]) C dX10_learnAll_36 rfl (am_up1 _) (by decide) rfl ?_
          refine am_goto (pc := 39) (tgt := 2) C dX10_learnAll_39 (by decide) ?_
          exact ih2 g (m + 1) (by omega) (by rw [rf_la_n (fun z => Bool.false_ne_true (q18.symm.trans z.1))]; exact hS9) hF
        · skip
          refine am_aload_n (pc := 21) C dX10_learnAll_21 rfl ?_
          refine am_iload_n (pc := 22) C dX10_learnAll_22 rfl ?_
          refine am_iload_n (pc := 23) C dX10_learnAll_23 rfl ?_
          refine am_callVi (Y := mX10_canLearn) (pc := 24) (st := []) (As := [.int (nI s), .int (nI m)]) (x := (am_b (rf_can (rf_la w s set m) s m))) (h2 := g) C dX10_learnAll_24 k10_150 v_X10_canLearn rfl rfl bn_3 sh_3 ⟨by decide, rfl⟩ (by decide) (Nat.zero_le _) (Nat.zero_le _) (Nat.le_of_ble_eq_true rfl) (c_X10_canLearn hR s m (rf_la w s set m) laI L9 hS9 (show s < rf_S (rf_la w s set m) from (by omega)) (show m < rf_M (rf_la w s set m) from (by omega))) ?_
          refine am_if_eqB (pc := 27) (tgt := 36) C dX10_learnAll_27 (by decide) (fun q27 => ?_) (fun q27 => ?_)
          · skip
            refine am_iincN (pc := 36) (ls' := [(0, .ref 3), (1, .int (nI s)), (2, .int set), (3, .int (nI (m + 1)))]) C dX10_learnAll_36 rfl (am_up1 _) (by decide) rfl ?_
            refine am_goto (pc := 39) (tgt := 2) C dX10_learnAll_39 (by decide) ?_
            exact ih2 g (m + 1) (by omega) (by rw [rf_la_n (fun z => Bool.false_ne_true (q27.symm.trans z.2))]; exact hS9) hF
          · skip
            refine am_aload_n (pc := 30) C dX10_learnAll_30 rfl ?_
            refine am_iload_n (pc := 31) C dX10_learnAll_31 rfl ?_
            refine am_iload_n (pc := 32) C dX10_learnAll_32 rfl ?_
            refine am_callVvr (Y := mX10_learn) (pc := 33) (st := []) (As := [.int (nI s), .int (nI m)]) (PP := fun c9 => cl_Sc c9 25 (rf_learn (rf_la w s set m) s m) ∧ cl_fr (g) c9 25 15) C dX10_learnAll_33 k10_153 v_X10_learn rfl rfl bn_3 sh_3 ⟨by decide, rfl⟩ (by decide) (Nat.zero_le _) (Nat.zero_le _) (Nat.le_of_ble_eq_true rfl) (c_X10_learn hR s m (rf_la w s set m) laI L9 hS9 (show s < rf_S (rf_la w s set m) from (by omega)) (show m < rf_M (rf_la w s set m) from (by omega)) (show rf_can (rf_la w s set m) s m = true from q27)) (fun g33_1 hg33_1 => ?_)
            obtain ⟨S33, F33⟩ := hg33_1
            refine am_iincN (pc := 36) (ls' := [(0, .ref 3), (1, .int (nI s)), (2, .int set), (3, .int (nI (m + 1)))]) C dX10_learnAll_36 rfl (am_up1 _) (by decide) rfl ?_
            refine am_goto (pc := 39) (tgt := 2) C dX10_learnAll_39 (by decide) ?_
            exact ih2 g33_1 (m + 1) (by omega) (by rw [rf_la_y ⟨q18, q27⟩]; exact S33) (fun i h9 => (F33 i h9).trans (hF i h9))
  exact L2 (rf_M w) h 0 (by omega) hSc (fun _ _ => rfl)

set_option maxHeartbeats 400000 in
set_option maxRecDepth 100000 in
theorem c_X5_forget {ad : Nat → Nat} {r : am_R} (hR : am_rs r) {h : am_H} (s : Nat) (m : Nat) (w : rf_W) (hV : rf_I w) (hSc : cl_Sc (h) 25 w) (hs : s < rf_S w) (hm : m < 32) (hP : rf_pos w s m < rf_kn w s) (hPm : rf_li w s (rf_pos w s m) = m)  : am_CM mX5_forget 1 0 0 [.ref 25, .int (nI s), .int (nI m)] (am_VV ad) r h (am_po none r (am_row (am_row (am_row h 31 ((cl_fg (h 31) w s m (rf_kn w s)).1)) 28 (upd (h 28) s (nI (rf_kn w s - 1)))) 29 (upd (h 29) s (rf_known w s &&& ((nI 1 <<< (nI m &&& 31)) ^^^ (-1)))))) := by
  refine am_CM.of (by decide +kernel) (Nat.le_of_ble_eq_true rfl) (fun X C T => ?_)
  show am_G X (am_VV ad) (0, 0) 0 [(0, .ref 25), (1, .int (nI s)), (2, .int (nI m))] [] r h
  have hM9 : rf_M w < 17 := hV.1.1.2
  have hS9 : rf_S w < 11 := hV.1.2.1.2
  have hO9 : rf_O w < 11 := hV.1.2.2.2
  have hIs := hV.2.1 s hs
  have hk13 : rf_kn w s < 13 := hIs.2.2.2.2.1.2
  have hfg := cl_fg_ok (f := h 31) hIs hP hPm
  refine am_aload_n (pc := 0) C dX5_forget_0 rfl ?_
  refine am_getR (pc := 1) (j := 28) C dX5_forget_1 f5_22 bn_25 sh_25 (rf_25_7 hR) ?_
  refine am_iload_n (pc := 4) C dX5_forget_4 rfl ?_
  refine am_callSNi (Y := mX11_pick) (pc := 5) (st := []) (As := [.ref 28, .int (nI s)]) (x := ((h 28) s)) (h2 := h) C dX5_forget_5 k5_75 v_X11_pick rfl rfl (by decide) (Nat.zero_le _) (Nat.zero_le _) (Nat.le_of_ble_eq_true rfl) (c_X11_pick 28 s 10 bn_28 sh_28 (show s < 10 from by omega) (by decide)) ?_
  refine am_top (show ((h 28) s) = (nI (rf_kn w s)) from ((hSc.2.1 s (by omega)).2.2.1.trans (hV.2.1 s (by omega)).2.2.2.2.1.1)) ?_
  refine am_istore_n (pc := 8) (ls' := [(0, .ref 25), (1, .int (nI s)), (2, .int (nI m)), (3, .int (nI (rf_kn w s)))]) C dX5_forget_8 (by decide) rfl ?_
  refine am_iconstN (pc := 9) (k := 0) C dX5_forget_9 ?_
  refine am_istore (pc := 10) (ls' := [(0, .ref 25), (1, .int (nI s)), (2, .int (nI m)), (3, .int (nI (rf_kn w s))), (4, .int (nI 0))]) C dX5_forget_10 (by decide) rfl ?_
  refine am_iconstN (pc := 12) (k := 0) C dX5_forget_12 ?_
  refine am_istore (pc := 13) (ls' := [(0, .ref 25), (1, .int (nI s)), (2, .int (nI m)), (3, .int (nI (rf_kn w s))), (4, .int (nI 0)), (5, .int (nI 0))]) C dX5_forget_13 (by decide) rfl ?_
  have L15 : ∀ (j15 i15 : Nat), i15 + j15 = rf_kn w s → am_G X (am_VV ad) (0, 0) 15 [(0, .ref 25), (1, .int (nI s)), (2, .int (nI m)), (3, .int (nI (rf_kn w s))), (4, .int (nI ((cl_fg (h 31) w s m i15).2))), (5, .int (nI i15))] [] r (am_row h 31 ((cl_fg (h 31) w s m i15).1)) := by
    intro j15
    induction j15 with
    | zero =>
      intro i15 hi15 
      obtain rfl : i15 = rf_kn w s := by omega
      obtain ⟨f1, f2, f3⟩ := hfg (rf_kn w s) (Nat.le_refl _)
      rw [if_neg (by omega)] at f1
      refine am_iload (pc := 15) C dX5_forget_15 rfl ?_
      refine am_iload_n (pc := 17) C dX5_forget_17 rfl ?_
      refine am_icmp_geN (pc := 18) (tgt := 68) C dX5_forget_18 (by decide) (by omega) (by omega) (fun q18 => ?_) (fun q18 => ?_)
      · skip
        refine am_lsv (ls' := [(0, .ref 25), (1, .int (nI s)), (2, .int (nI m)), (3, .int (nI (rf_kn w s))), (4, .int (nI (rf_kn w s - 1))), (5, .int (nI (rf_kn w s)))]) (congrArg (fun z9 : Int32 => ([(0, .ref 25), (1, .int (nI s)), (2, .int (nI m)), (3, .int (nI (rf_kn w s))), (4, Value.int z9), (5, .int (nI (rf_kn w s)))] : List (Nat × Value))) (show (nI ((cl_fg (h 31) w s m (rf_kn w s)).2)) = (nI (rf_kn w s - 1)) from (congrArg nI f1))) ?_
        refine am_aload_n (pc := 68) C dX5_forget_68 rfl ?_
        refine am_getR (pc := 69) (j := 28) C dX5_forget_69 f5_22 bn_25 sh_25 (rf_25_7 hR) ?_
        refine am_iload_n (pc := 72) C dX5_forget_72 rfl ?_
        refine am_iload (pc := 73) C dX5_forget_73 rfl ?_
        refine am_callSNv (Y := mX11_put) (pc := 75) (st := []) (As := [.ref 28, .int (nI s), .int (nI (rf_kn w s - 1))]) (h2 := (am_row (am_row h 31 ((cl_fg (h 31) w s m (rf_kn w s)).1)) 28 (upd (h 28) s (nI (rf_kn w s - 1))))) C dX5_forget_75 k5_79 v_X11_put rfl rfl (by decide) (Nat.zero_le _) (Nat.zero_le _) (Nat.le_of_ble_eq_true rfl) (c_X11_put 28 s (nI (rf_kn w s - 1)) 10 bn_28 sh_28 (show s < 10 from by omega) (by decide)) ?_
        refine am_aload_n (pc := 78) C dX5_forget_78 rfl ?_
        refine am_getR (pc := 79) (j := 29) C dX5_forget_79 f5_25 bn_25 sh_25 (rf_25_8 hR) ?_
        refine am_iload_n (pc := 82) C dX5_forget_82 rfl ?_
        refine am_aload_n (pc := 83) C dX5_forget_83 rfl ?_
        refine am_getR (pc := 84) (j := 29) C dX5_forget_84 f5_25 bn_25 sh_25 (rf_25_8 hR) ?_
        refine am_iload_n (pc := 87) C dX5_forget_87 rfl ?_
        refine am_callSNi (Y := mX11_pick) (pc := 88) (st := [.int (nI s), .ref 29]) (As := [.ref 29, .int (nI s)]) (x := ((h 29) s)) (h2 := (am_row (am_row h 31 ((cl_fg (h 31) w s m (rf_kn w s)).1)) 28 (upd (h 28) s (nI (rf_kn w s - 1))))) C dX5_forget_88 k5_75 v_X11_pick rfl rfl (by decide) (Nat.zero_le _) (Nat.zero_le _) (Nat.le_of_ble_eq_true rfl) (c_X11_pick 29 s 10 bn_29 sh_29 (show s < 10 from by omega) (by decide)) ?_
        refine am_top (show ((h 29) s) = (rf_known w s) from (hSc.2.1 s (by omega)).2.2.2.1) ?_
        refine am_iconstN (pc := 91) (k := 1) C dX5_forget_91 ?_
        refine am_iload_n (pc := 92) C dX5_forget_92 rfl ?_
        refine am_ishl (pc := 93) C dX5_forget_93 ?_
        refine am_iconst (pc := 94) (v := -1) C dX5_forget_94 rfl ?_
        refine am_ixor (pc := 95) C dX5_forget_95 ?_
        refine am_iand (pc := 96) C dX5_forget_96 ?_
        refine am_callSNv (Y := mX11_put) (pc := 97) (st := []) (As := [.ref 29, .int (nI s), .int ((rf_known w s) &&& (((nI 1) <<< ((nI m) &&& 31)) ^^^ (-1)))]) (h2 := (am_row (am_row (am_row h 31 ((cl_fg (h 31) w s m (rf_kn w s)).1)) 28 (upd (h 28) s (nI (rf_kn w s - 1)))) 29 (upd (h 29) s ((rf_known w s) &&& (((nI 1) <<< ((nI m) &&& 31)) ^^^ (-1)))))) C dX5_forget_97 k5_79 v_X11_put rfl rfl (by decide) (Nat.zero_le _) (Nat.zero_le _) (Nat.le_of_ble_eq_true rfl) (c_X11_put 29 s ((rf_known w s) &&& (((nI 1) <<< ((nI m) &&& 31)) ^^^ (-1))) 10 bn_29 sh_29 (show s < 10 from by omega) (by decide)) ?_
        exact am_vretv T dX5_forget_100 rfl (Nat.le_refl _) (Nat.le_refl _) rfl rfl
      · skip
        exact absurd q18 (by omega)
    | succ j15 ih15 =>
      intro i15 hi15 
      have hl15 : i15 < rf_kn w s := by omega
      obtain ⟨f1, f2, f3⟩ := hfg i15 (by omega)
      have f4 : (cl_fg (h 31) w s m i15).2 ≤ i15 := by rw [f1]; split <;> omega
      have f5 := hIs.2.2.2.2.2.1 i15 hl15
      have f6 : rf_li w s i15 < rf_M w := f5.2
      refine am_iload (pc := 15) C dX5_forget_15 rfl ?_
      refine am_iload_n (pc := 17) C dX5_forget_17 rfl ?_
      refine am_icmp_geN (pc := 18) (tgt := 68) C dX5_forget_18 (by decide) (by omega) (by omega) (fun q18 => ?_) (fun q18 => ?_)
      · skip
        exact absurd q18 (by omega)
      · skip
        refine am_aload_n (pc := 21) C dX5_forget_21 rfl ?_
        refine am_getR (pc := 22) (j := 31) C dX5_forget_22 f5_31 bn_25 sh_25 (rf_25_10 hR) ?_
        refine am_iload_n (pc := 25) C dX5_forget_25 rfl ?_
        refine am_bipush (pc := 26) (v := nI 12) C dX5_forget_26 (by decide) ?_
        refine am_imulN (pc := 28) C dX5_forget_28 ?_
        refine am_iload (pc := 29) C dX5_forget_29 rfl ?_
        refine am_iaddN (pc := 31) C dX5_forget_31 ?_
        refine am_callSNi (Y := mX11_pick) (pc := 32) (st := []) (As := [.ref 31, .int (nI ((s * 12) + i15))]) (x := (((cl_fg (h 31) w s m i15).1) ((s * 12) + i15))) (h2 := (am_row h 31 ((cl_fg (h 31) w s m i15).1))) C dX5_forget_32 k5_75 v_X11_pick rfl rfl (by decide) (Nat.zero_le _) (Nat.zero_le _) (Nat.le_of_ble_eq_true rfl) (c_X11_pick 31 ((s * 12) + i15) 120 bn_31 sh_31 (show (s * 12) + i15 < 120 from by omega) (by decide)) ?_
        refine am_top (show (((cl_fg (h 31) w s m i15).1) ((s * 12) + i15)) = (nI (rf_li w s i15)) from ((f3 _ (by omega)).trans (((hSc.2.1 s hs).2.2.2.2.2 i15 hl15).trans f5.1))) ?_
        refine am_istore (pc := 35) (ls' := [(0, .ref 25), (1, .int (nI s)), (2, .int (nI m)), (3, .int (nI (rf_kn w s))), (4, .int (nI ((cl_fg (h 31) w s m i15).2))), (5, .int (nI i15)), (6, .int (nI (rf_li w s i15)))]) C dX5_forget_35 (by decide) rfl ?_
        refine am_iload (pc := 37) C dX5_forget_37 rfl ?_
        refine am_iload_n (pc := 39) C dX5_forget_39 rfl ?_
        refine am_icmp_eqN (pc := 40) (tgt := 62) C dX5_forget_40 (by decide) (by omega) (by omega) (fun q40 => ?_) (fun q40 => ?_)
        · skip
          refine am_iincN (pc := 62) (ls' := [(0, .ref 25), (1, .int (nI s)), (2, .int (nI m)), (3, .int (nI (rf_kn w s))), (4, .int (nI ((cl_fg (h 31) w s m i15).2))), (5, .int (nI (i15 + 1))), (6, .int (nI (rf_li w s i15)))]) C dX5_forget_62 rfl (am_up1 _) (by decide) rfl ?_
          refine am_goto (pc := 65) (tgt := 15) C dX5_forget_65 (by decide) ?_
          refine am_sub (ls' := [(0, .ref 25), (1, .int (nI s)), (2, .int (nI m)), (3, .int (nI (rf_kn w s))), (4, .int (nI ((cl_fg (h 31) w s m i15).2))), (5, .int (nI (i15 + 1)))]) (by intro q hq; simp only [List.mem_cons, List.not_mem_nil, or_false] at hq ⊢; rcases hq with rfl | rfl | rfl | rfl | rfl | rfl <;> simp) ?_
          refine am_hp (show (am_row h 31 ((cl_fg (h 31) w s m i15).1)) = (am_row h 31 ((cl_fg (h 31) w s m (i15 + 1)).1)) from congrArg (am_row _ 31) (by rw [cl_fg, if_pos q40])) ?_
          refine am_lsv (ls' := [(0, .ref 25), (1, .int (nI s)), (2, .int (nI m)), (3, .int (nI (rf_kn w s))), (4, .int (nI ((cl_fg (h 31) w s m (i15 + 1)).2))), (5, .int (nI (i15 + 1)))]) (by rw [show (nI ((cl_fg (h 31) w s m i15).2)) = (nI ((cl_fg (h 31) w s m (i15 + 1)).2)) from congrArg nI (by rw [cl_fg, if_pos q40])]) ?_
          exact ih15 (i15 + 1) (by omega) 
        · skip
          refine am_aload_n (pc := 43) C dX5_forget_43 rfl ?_
          refine am_getR (pc := 44) (j := 31) C dX5_forget_44 f5_31 bn_25 sh_25 (rf_25_10 hR) ?_
          refine am_iload_n (pc := 47) C dX5_forget_47 rfl ?_
          refine am_bipush (pc := 48) (v := nI 12) C dX5_forget_48 (by decide) ?_
          refine am_imulN (pc := 50) C dX5_forget_50 ?_
          refine am_iload (pc := 51) C dX5_forget_51 rfl ?_
          refine am_iaddN (pc := 53) C dX5_forget_53 ?_
          refine am_iload (pc := 54) C dX5_forget_54 rfl ?_
          refine am_callSNv (Y := mX11_put) (pc := 56) (st := []) (As := [.ref 31, .int (nI ((s * 12) + ((cl_fg (h 31) w s m i15).2))), .int (nI (rf_li w s i15))]) (h2 := (am_row (am_row h 31 ((cl_fg (h 31) w s m i15).1)) 31 (upd ((cl_fg (h 31) w s m i15).1) ((s * 12) + ((cl_fg (h 31) w s m i15).2)) (nI (rf_li w s i15))))) C dX5_forget_56 k5_79 v_X11_put rfl rfl (by decide) (Nat.zero_le _) (Nat.zero_le _) (Nat.le_of_ble_eq_true rfl) (c_X11_put 31 ((s * 12) + ((cl_fg (h 31) w s m i15).2)) (nI (rf_li w s i15)) 120 bn_31 sh_31 (show (s * 12) + ((cl_fg (h 31) w s m i15).2) < 120 from by omega) (by decide)) ?_
          refine am_hp (show (am_row (am_row h 31 ((cl_fg (h 31) w s m i15).1)) 31 (upd ((cl_fg (h 31) w s m i15).1) ((s * 12) + ((cl_fg (h 31) w s m i15).2)) (nI (rf_li w s i15)))) = (am_row h 31 (upd ((cl_fg (h 31) w s m i15).1) ((s * 12) + ((cl_fg (h 31) w s m i15).2)) (nI (rf_li w s i15)))) from am_row_s0) ?_
          refine am_iincN (pc := 59) (ls' := [(0, .ref 25), (1, .int (nI s)), (2, .int (nI m)), (3, .int (nI (rf_kn w s))), (4, .int (nI ((cl_fg (h 31) w s m i15).2 + 1))), (5, .int (nI i15)), (6, .int (nI (rf_li w s i15)))]) C dX5_forget_59 rfl (am_up1 _) (by decide) rfl ?_
          refine am_iincN (pc := 62) (ls' := [(0, .ref 25), (1, .int (nI s)), (2, .int (nI m)), (3, .int (nI (rf_kn w s))), (4, .int (nI ((cl_fg (h 31) w s m i15).2 + 1))), (5, .int (nI (i15 + 1))), (6, .int (nI (rf_li w s i15)))]) C dX5_forget_62 rfl (am_up1 _) (by decide) rfl ?_
          refine am_goto (pc := 65) (tgt := 15) C dX5_forget_65 (by decide) ?_
          refine am_sub (ls' := [(0, .ref 25), (1, .int (nI s)), (2, .int (nI m)), (3, .int (nI (rf_kn w s))), (4, .int (nI ((cl_fg (h 31) w s m i15).2 + 1))), (5, .int (nI (i15 + 1)))]) (by intro q hq; simp only [List.mem_cons, List.not_mem_nil, or_false] at hq ⊢; rcases hq with rfl | rfl | rfl | rfl | rfl | rfl <;> simp) ?_
          refine am_hp (show (am_row h 31 (upd ((cl_fg (h 31) w s m i15).1) ((s * 12) + ((cl_fg (h 31) w s m i15).2)) (nI (rf_li w s i15)))) = (am_row h 31 ((cl_fg (h 31) w s m (i15 + 1)).1)) from congrArg (am_row _ 31) (by rw [cl_fg, if_neg q40])) ?_
          refine am_lsv (ls' := [(0, .ref 25), (1, .int (nI s)), (2, .int (nI m)), (3, .int (nI (rf_kn w s))), (4, .int (nI ((cl_fg (h 31) w s m (i15 + 1)).2))), (5, .int (nI (i15 + 1)))]) (by rw [show (nI ((cl_fg (h 31) w s m i15).2 + 1)) = (nI ((cl_fg (h 31) w s m (i15 + 1)).2)) from congrArg nI (by rw [cl_fg, if_neg q40])]) ?_
          exact ih15 (i15 + 1) (by omega) 
  refine am_sub (ls' := [(0, .ref 25), (1, .int (nI s)), (2, .int (nI m)), (3, .int (nI (rf_kn w s))), (4, .int (nI 0)), (5, .int (nI 0))]) (by intro q hq; simp only [List.mem_cons, List.not_mem_nil, or_false] at hq ⊢; rcases hq with rfl | rfl | rfl | rfl | rfl | rfl <;> simp) ?_
  refine am_hp (show h = (am_row h 31 ((cl_fg (h 31) w s m 0).1)) from (am_row_id _ 31).symm) ?_
  refine am_lsv (ls' := [(0, .ref 25), (1, .int (nI s)), (2, .int (nI m)), (3, .int (nI (rf_kn w s))), (4, .int (nI ((cl_fg (h 31) w s m 0).2))), (5, .int (nI 0))]) (by rw [show (nI 0) = (nI ((cl_fg (h 31) w s m 0).2)) from rfl]) ?_
  exact L15 (rf_kn w s) 0 (by omega) 

set_option maxHeartbeats 400000 in
set_option maxRecDepth 100000 in
theorem c_X5_takeThing {ad : Nat → Nat} {r : am_R} (hR : am_rs r) {h : am_H} (k : Nat) (w : rf_W) (hV : rf_I w) (hSc : cl_Sc (h) 25 w) (hk : k < rf_F w)  : am_CM mX5_takeThing 2 0 0 [.ref 25, .int (nI k)] (am_VV ad) r h (am_po none r (am_row (am_row (am_row (am_row h 32 (va_cpy (h 32) (h 32) (k + 1) k (rf_F w - 1 - k))) 33 (va_cpy (h 33) (h 33) (k + 1) k (rf_F w - 1 - k))) 34 (va_cpy (h 34) (h 34) (k + 1) k (rf_F w - 1 - k))) 25 (upd (h 25) 4 (nI (rf_F w - 1))))) := by
  refine am_CM.of (by decide +kernel) (Nat.le_of_ble_eq_true rfl) (fun X C T => ?_)
  show am_G X (am_VV ad) (0, 0) 0 [(0, .ref 25), (1, .int (nI k))] [] r h
  have hM9 : rf_M w < 17 := hV.1.1.2
  have hS9 : rf_S w < 11 := hV.1.2.1.2
  have hO9 : rf_O w < 11 := hV.1.2.2.2
  have hF9 : rf_F w < 41 := hV.2.2.2.2.1.2.2.1.2
  refine am_aload_n (pc := 0) C dX5_takeThing_0 rfl ?_
  refine am_getI (pc := 1) C dX5_takeThing_1 f5_67 bn_25 sh_25 ?_
  refine am_top (show ((h 25) 4) = (nI (rf_F w)) from (hSc.1.2.2.2.2.trans hV.2.2.2.2.1.2.2.1.1)) ?_
  refine am_iconstN (pc := 4) (k := 1) C dX5_takeThing_4 ?_
  refine am_isubN (pc := 5) C dX5_takeThing_5 (by omega) ?_
  refine am_iload_n (pc := 6) C dX5_takeThing_6 rfl ?_
  refine am_isubN (pc := 7) C dX5_takeThing_7 (by omega) ?_
  refine am_istore_n (pc := 8) (ls' := [(0, .ref 25), (1, .int (nI k)), (2, .int (nI (((rf_F w) - 1) - k)))]) C dX5_takeThing_8 (by decide) rfl ?_
  refine am_iload_n (pc := 9) C dX5_takeThing_9 rfl ?_
  refine am_if_ltN (pc := 10) (tgt := 26) C dX5_takeThing_10 (by decide) (by omega) ?_
  refine am_iload_n (pc := 13) C dX5_takeThing_13 rfl ?_
  refine am_if_ltN (pc := 14) (tgt := 26) C dX5_takeThing_14 (by decide) (by omega) ?_
  refine am_aload_n (pc := 17) C dX5_takeThing_17 rfl ?_
  refine am_getI (pc := 18) C dX5_takeThing_18 f5_67 bn_25 sh_25 ?_
  refine am_top (show ((h 25) 4) = (nI (rf_F w)) from (hSc.1.2.2.2.2.trans hV.2.2.2.2.1.2.2.1.1)) ?_
  refine am_bipush (pc := 21) (v := nI 40) C dX5_takeThing_21 (by decide) ?_
  refine am_icmp_leN (pc := 23) (tgt := 27) C dX5_takeThing_23 (by decide) (by omega) (by omega) (fun q23 => ?_) (fun q23 => ?_)
  · skip
    refine am_aload_n (pc := 27) C dX5_takeThing_27 rfl ?_
    refine am_getR (pc := 28) (j := 32) C dX5_takeThing_28 f5_34 bn_25 sh_25 (rf_25_11 hR) ?_
    refine am_iload_n (pc := 31) C dX5_takeThing_31 rfl ?_
    refine am_iconstN (pc := 32) (k := 1) C dX5_takeThing_32 ?_
    refine am_iaddN (pc := 33) C dX5_takeThing_33 ?_
    refine am_aload_n (pc := 34) C dX5_takeThing_34 rfl ?_
    refine am_getR (pc := 35) (j := 32) C dX5_takeThing_35 f5_34 bn_25 sh_25 (rf_25_11 hR) ?_
    refine am_iload_n (pc := 38) C dX5_takeThing_38 rfl ?_
    refine am_iload_n (pc := 39) C dX5_takeThing_39 rfl ?_
    refine am_hp2 (h2 := (am_row h 32 (va_cpy (h 32) (h 32) (k + 1) k (((rf_F w) - 1) - k)))) (am_copyi (pc := 40) C dX5_takeThing_40 (am_mem 1357 (by decide +kernel) rfl) bn_32 sh_32 bn_32 sh_32 (by omega) (by omega) (by decide) (by decide) (by decide) (Nat.le_of_ble_eq_true rfl)) rfl ?_
    refine am_aload_n (pc := 43) C dX5_takeThing_43 rfl ?_
    refine am_getR (pc := 44) (j := 33) C dX5_takeThing_44 f5_37 bn_25 sh_25 (rf_25_12 hR) ?_
    refine am_iload_n (pc := 47) C dX5_takeThing_47 rfl ?_
    refine am_iconstN (pc := 48) (k := 1) C dX5_takeThing_48 ?_
    refine am_iaddN (pc := 49) C dX5_takeThing_49 ?_
    refine am_aload_n (pc := 50) C dX5_takeThing_50 rfl ?_
    refine am_getR (pc := 51) (j := 33) C dX5_takeThing_51 f5_37 bn_25 sh_25 (rf_25_12 hR) ?_
    refine am_iload_n (pc := 54) C dX5_takeThing_54 rfl ?_
    refine am_iload_n (pc := 55) C dX5_takeThing_55 rfl ?_
    refine am_hp2 (h2 := (am_row (am_row h 32 (va_cpy (h 32) (h 32) (k + 1) k (((rf_F w) - 1) - k))) 33 (va_cpy (h 33) (h 33) (k + 1) k (((rf_F w) - 1) - k)))) (am_copyi (pc := 56) C dX5_takeThing_56 (am_mem 1357 (by decide +kernel) rfl) bn_33 sh_33 bn_33 sh_33 (by omega) (by omega) (by decide) (by decide) (by decide) (Nat.le_of_ble_eq_true rfl)) rfl ?_
    refine am_aload_n (pc := 59) C dX5_takeThing_59 rfl ?_
    refine am_getR (pc := 60) (j := 34) C dX5_takeThing_60 f5_40 bn_25 sh_25 (rf_25_13 hR) ?_
    refine am_iload_n (pc := 63) C dX5_takeThing_63 rfl ?_
    refine am_iconstN (pc := 64) (k := 1) C dX5_takeThing_64 ?_
    refine am_iaddN (pc := 65) C dX5_takeThing_65 ?_
    refine am_aload_n (pc := 66) C dX5_takeThing_66 rfl ?_
    refine am_getR (pc := 67) (j := 34) C dX5_takeThing_67 f5_40 bn_25 sh_25 (rf_25_13 hR) ?_
    refine am_iload_n (pc := 70) C dX5_takeThing_70 rfl ?_
    refine am_iload_n (pc := 71) C dX5_takeThing_71 rfl ?_
    refine am_hp2 (h2 := (am_row (am_row (am_row h 32 (va_cpy (h 32) (h 32) (k + 1) k (((rf_F w) - 1) - k))) 33 (va_cpy (h 33) (h 33) (k + 1) k (((rf_F w) - 1) - k))) 34 (va_cpy (h 34) (h 34) (k + 1) k (((rf_F w) - 1) - k)))) (am_copyi (pc := 72) C dX5_takeThing_72 (am_mem 1357 (by decide +kernel) rfl) bn_34 sh_34 bn_34 sh_34 (by omega) (by omega) (by decide) (by decide) (by decide) (Nat.le_of_ble_eq_true rfl)) rfl ?_
    refine am_aload_n (pc := 75) C dX5_takeThing_75 rfl ?_
    refine am_dup (pc := 76) C dX5_takeThing_76 rfl ?_
    refine am_getI (pc := 77) C dX5_takeThing_77 f5_67 bn_25 sh_25 ?_
    refine am_top (show ((h 25) 4) = (nI (rf_F w)) from (hSc.1.2.2.2.2.trans hV.2.2.2.2.1.2.2.1.1)) ?_
    refine am_iconstN (pc := 80) (k := 1) C dX5_takeThing_80 ?_
    refine am_isubN (pc := 81) C dX5_takeThing_81 (by omega) ?_
    refine am_putI (pc := 82) C dX5_takeThing_82 f5_67 bn_25 sh_25 rfl rfl ?_
    refine am_hp (show am_up (am_row (am_row (am_row h 32 (va_cpy (h 32) (h 32) (k + 1) k (((rf_F w) - 1) - k))) 33 (va_cpy (h 33) (h 33) (k + 1) k (((rf_F w) - 1) - k))) 34 (va_cpy (h 34) (h 34) (k + 1) k (((rf_F w) - 1) - k))) 25 4 (nI ((rf_F w) - 1)) = am_row (am_row (am_row (am_row h 32 (va_cpy (h 32) (h 32) (k + 1) k (((rf_F w) - 1) - k))) 33 (va_cpy (h 33) (h 33) (k + 1) k (((rf_F w) - 1) - k))) 34 (va_cpy (h 34) (h 34) (k + 1) k (((rf_F w) - 1) - k))) 25 (upd (h 25) 4 (nI ((rf_F w) - 1))) from am_up_rw _ _ _ _) ?_
    exact am_vretv T dX5_takeThing_85 rfl (Nat.le_refl _) (Nat.le_refl _) rfl rfl
  · skip
    exact absurd (show rf_F w ≤ 40 by omega) (by omega)

set_option maxHeartbeats 400000 in
set_option maxRecDepth 100000 in
theorem c_X5_layDown {ad : Nat → Nat} {r : am_R} (hR : am_rs r) {h : am_H} (m : Int32) (p : Int32) (x : Int32) (w : rf_W) (hV : rf_I w) (hSc : cl_Sc (h) 25 w)  : am_CM mX5_layDown 3 0 0 [.ref 25, .int m, .int p, .int x] (am_VV ad) r h (am_pr none r (fun c9 => cl_Sc c9 25 (rf_lie w m p x) ∧ cl_fr (h) c9 25 15)) := by
  refine am_CM.of (by decide +kernel) (Nat.le_of_ble_eq_true rfl) (fun X C T => ?_)
  show am_G X (am_VV ad) (0, 0) 0 [(0, .ref 25), (1, .int m), (2, .int p), (3, .int x)] [] r h
  have hM9 : rf_M w < 17 := hV.1.1.2
  have hS9 : rf_S w < 11 := hV.1.2.1.2
  have hO9 : rf_O w < 11 := hV.1.2.2.2
  have hF9 : rf_F w < 41 := hV.2.2.2.2.1.2.2.1.2
  refine am_aload_n (pc := 0) C dX5_layDown_0 rfl ?_
  refine am_getI (pc := 1) C dX5_layDown_1 f5_67 bn_25 sh_25 ?_
  refine am_top (show ((h 25) 4) = (nI (rf_F w)) from (hSc.1.2.2.2.2.trans hV.2.2.2.2.1.2.2.1.1)) ?_
  refine am_bipush (pc := 4) (v := nI 40) C dX5_layDown_4 (by decide) ?_
  refine am_icmp_ltN (pc := 6) (tgt := 14) C dX5_layDown_6 (by decide) (by omega) (by omega) (fun q6 => ?_) (fun q6 => ?_)
  · skip
    refine am_aload_n (pc := 14) C dX5_layDown_14 rfl ?_
    refine am_getR (pc := 15) (j := 32) C dX5_layDown_15 f5_34 bn_25 sh_25 (rf_25_11 hR) ?_
    refine am_aload_n (pc := 18) C dX5_layDown_18 rfl ?_
    refine am_getI (pc := 19) C dX5_layDown_19 f5_67 bn_25 sh_25 ?_
    refine am_top (show ((h 25) 4) = (nI (rf_F w)) from (hSc.1.2.2.2.2.trans hV.2.2.2.2.1.2.2.1.1)) ?_
    refine am_iload_n (pc := 22) C dX5_layDown_22 rfl ?_
    refine am_callSNv (Y := mX11_put) (pc := 23) (st := []) (As := [.ref 32, .int (nI (rf_F w)), .int m]) (h2 := (am_row h 32 (upd (h 32) (rf_F w) m))) C dX5_layDown_23 k5_79 v_X11_put rfl rfl (by decide) (Nat.zero_le _) (Nat.zero_le _) (Nat.le_of_ble_eq_true rfl) (c_X11_put 32 (rf_F w) m 40 bn_32 sh_32 (show rf_F w < 40 from by omega) (by decide)) ?_
    refine am_aload_n (pc := 26) C dX5_layDown_26 rfl ?_
    refine am_getR (pc := 27) (j := 33) C dX5_layDown_27 f5_37 bn_25 sh_25 (rf_25_12 hR) ?_
    refine am_aload_n (pc := 30) C dX5_layDown_30 rfl ?_
    refine am_getI (pc := 31) C dX5_layDown_31 f5_67 bn_25 sh_25 ?_
    refine am_top (show ((h 25) 4) = (nI (rf_F w)) from (hSc.1.2.2.2.2.trans hV.2.2.2.2.1.2.2.1.1)) ?_
    refine am_iload_n (pc := 34) C dX5_layDown_34 rfl ?_
    refine am_callSNv (Y := mX11_put) (pc := 35) (st := []) (As := [.ref 33, .int (nI (rf_F w)), .int p]) (h2 := (am_row (am_row h 32 (upd (h 32) (rf_F w) m)) 33 (upd (h 33) (rf_F w) p))) C dX5_layDown_35 k5_79 v_X11_put rfl rfl (by decide) (Nat.zero_le _) (Nat.zero_le _) (Nat.le_of_ble_eq_true rfl) (c_X11_put 33 (rf_F w) p 40 bn_33 sh_33 (show rf_F w < 40 from by omega) (by decide)) ?_
    refine am_aload_n (pc := 38) C dX5_layDown_38 rfl ?_
    refine am_getR (pc := 39) (j := 34) C dX5_layDown_39 f5_40 bn_25 sh_25 (rf_25_13 hR) ?_
    refine am_aload_n (pc := 42) C dX5_layDown_42 rfl ?_
    refine am_getI (pc := 43) C dX5_layDown_43 f5_67 bn_25 sh_25 ?_
    refine am_top (show ((h 25) 4) = (nI (rf_F w)) from (hSc.1.2.2.2.2.trans hV.2.2.2.2.1.2.2.1.1)) ?_
    refine am_iload_n (pc := 46) C dX5_layDown_46 rfl ?_
    refine am_callSNv (Y := mX11_put) (pc := 47) (st := []) (As := [.ref 34, .int (nI (rf_F w)), .int x]) (h2 := (am_row (am_row (am_row h 32 (upd (h 32) (rf_F w) m)) 33 (upd (h 33) (rf_F w) p)) 34 (upd (h 34) (rf_F w) x))) C dX5_layDown_47 k5_79 v_X11_put rfl rfl (by decide) (Nat.zero_le _) (Nat.zero_le _) (Nat.le_of_ble_eq_true rfl) (c_X11_put 34 (rf_F w) x 40 bn_34 sh_34 (show rf_F w < 40 from by omega) (by decide)) ?_
    refine am_aload_n (pc := 50) C dX5_layDown_50 rfl ?_
    refine am_dup (pc := 51) C dX5_layDown_51 rfl ?_
    refine am_getI (pc := 52) C dX5_layDown_52 f5_67 bn_25 sh_25 ?_
    refine am_top (show ((h 25) 4) = (nI (rf_F w)) from (hSc.1.2.2.2.2.trans hV.2.2.2.2.1.2.2.1.1)) ?_
    refine am_iconstN (pc := 55) (k := 1) C dX5_layDown_55 ?_
    refine am_iaddN (pc := 56) C dX5_layDown_56 ?_
    refine am_putI (pc := 57) C dX5_layDown_57 f5_67 bn_25 sh_25 rfl rfl ?_
    refine am_hp (show am_up (am_row (am_row (am_row h 32 (upd (h 32) (rf_F w) m)) 33 (upd (h 33) (rf_F w) p)) 34 (upd (h 34) (rf_F w) x)) 25 4 (nI ((rf_F w) + 1)) = am_row (am_row (am_row (am_row h 32 (upd (h 32) (rf_F w) m)) 33 (upd (h 33) (rf_F w) p)) 34 (upd (h 34) (rf_F w) x)) 25 (upd (h 25) 4 (nI ((rf_F w) + 1))) from am_up_rw _ _ _ _) ?_
    exact am_vretvr T dX5_layDown_60 rfl (Nat.le_refl _) (Nat.le_refl _) rfl ⟨by rw [rf_lie, if_neg (by omega)]; exact (cl_Sc_put hV (by omega) hSc rfl (fun i h7 g7 n7 n8 n9 => by rw [am_row_ne _ _ _ (by omega), am_row_ne _ _ _ (by omega), am_row_ne _ _ _ (by omega), am_row_ne _ _ _ (by omega)]) rfl rfl rfl).1, (fun i9 h9 => by rw [am_row_ne _ _ _ (by omega), am_row_ne _ _ _ (by omega), am_row_ne _ _ _ (by omega), am_row_ne _ _ _ (by omega)])⟩
  · skip
    refine am_aload_n (pc := 9) C dX5_layDown_9 rfl ?_
    refine am_iconstN (pc := 10) (k := 0) C dX5_layDown_10 ?_
    refine am_callVv (Y := mX5_takeThing) (pc := 11) (st := []) (As := [.int (nI 0)]) (h2 := (am_row (am_row (am_row (am_row h 32 (va_cpy (h 32) (h 32) (0 + 1) 0 (rf_F w - 1 - 0))) 33 (va_cpy (h 33) (h 33) (0 + 1) 0 (rf_F w - 1 - 0))) 34 (va_cpy (h 34) (h 34) (0 + 1) 0 (rf_F w - 1 - 0))) 25 (upd (h 25) 4 (nI (rf_F w - 1))))) C dX5_layDown_11 k5_83 v_X5_takeThing rfl rfl bn_25 sh_25 ⟨by decide, rfl⟩ (by decide) (Nat.zero_le _) (Nat.zero_le _) (Nat.le_of_ble_eq_true rfl) (c_X5_takeThing hR 0 w hV hSc (show 0 < rf_F w from (by omega))) ?_
    have hF40 : rf_F w = 40 := by omega
    have hS1 := cl_Sc_remove (k := 0) hV (by omega) hSc (h' := (am_row (am_row (am_row (am_row h 32 (va_cpy (h 32) (h 32) (0 + 1) 0 (rf_F w - 1 - 0))) 33 (va_cpy (h 33) (h 33) (0 + 1) 0 (rf_F w - 1 - 0))) 34 (va_cpy (h 34) (h 34) (0 + 1) 0 (rf_F w - 1 - 0))) 25 (upd (h 25) 4 (nI (rf_F w - 1))))) rfl (fun i h7 g7 n7 n8 n9 => by rw [am_row_ne _ _ _ (by omega), am_row_ne _ _ _ (by omega), am_row_ne _ _ _ (by omega), am_row_ne _ _ _ (by omega)]) rfl rfl rfl
    have hFA : cl_fr h ((am_row (am_row (am_row (am_row h 32 (va_cpy (h 32) (h 32) (0 + 1) 0 (rf_F w - 1 - 0))) 33 (va_cpy (h 33) (h 33) (0 + 1) 0 (rf_F w - 1 - 0))) 34 (va_cpy (h 34) (h 34) (0 + 1) 0 (rf_F w - 1 - 0))) 25 (upd (h 25) 4 (nI (rf_F w - 1))))) 25 15 := (fun i9 h9 => by rw [am_row_ne _ _ _ (by omega), am_row_ne _ _ _ (by omega), am_row_ne _ _ _ (by omega), am_row_ne _ _ _ (by omega)])
    obtain ⟨gA, hzgA⟩ : ∃ z : am_H, z = (am_row (am_row (am_row (am_row h 32 (va_cpy (h 32) (h 32) (0 + 1) 0 (rf_F w - 1 - 0))) 33 (va_cpy (h 33) (h 33) (0 + 1) 0 (rf_F w - 1 - 0))) 34 (va_cpy (h 34) (h 34) (0 + 1) 0 (rf_F w - 1 - 0))) 25 (upd (h 25) 4 (nI (rf_F w - 1)))) := ⟨_, rfl⟩
    rw [← hzgA] at hS1 hFA
    have hSA := hS1
    have hVA := rf_I_remove (k := 0) hV (by omega)
    have hFm := rf_remove_F (k := 0) hF9
    refine am_hp (show (am_row (am_row (am_row (am_row h 32 (va_cpy (h 32) (h 32) (0 + 1) 0 (rf_F w - 1 - 0))) 33 (va_cpy (h 33) (h 33) (0 + 1) 0 (rf_F w - 1 - 0))) 34 (va_cpy (h 34) (h 34) (0 + 1) 0 (rf_F w - 1 - 0))) 25 (upd (h 25) 4 (nI (rf_F w - 1)))) = gA from hzgA.symm) ?_
    refine am_aload_n (pc := 14) C dX5_layDown_14 rfl ?_
    refine am_getR (pc := 15) (j := 32) C dX5_layDown_15 f5_34 bn_25 sh_25 (rf_25_11 hR) ?_
    refine am_aload_n (pc := 18) C dX5_layDown_18 rfl ?_
    refine am_getI (pc := 19) C dX5_layDown_19 f5_67 bn_25 sh_25 ?_
    refine am_top (show ((gA 25) 4) = (nI (rf_F (rf_remove w 0))) from (hSA.1.1.2.2.2.2.trans hVA.2.2.2.2.1.2.2.1.1)) ?_
    refine am_iload_n (pc := 22) C dX5_layDown_22 rfl ?_
    refine am_callSNv (Y := mX11_put) (pc := 23) (st := []) (As := [.ref 32, .int (nI (rf_F (rf_remove w 0))), .int m]) (h2 := (am_row gA 32 (upd (gA 32) (rf_F (rf_remove w 0)) m))) C dX5_layDown_23 k5_79 v_X11_put rfl rfl (by decide) (Nat.zero_le _) (Nat.zero_le _) (Nat.le_of_ble_eq_true rfl) (c_X11_put 32 (rf_F (rf_remove w 0)) m 40 bn_32 sh_32 (show rf_F (rf_remove w 0) < 40 from by omega) (by decide)) ?_
    refine am_aload_n (pc := 26) C dX5_layDown_26 rfl ?_
    refine am_getR (pc := 27) (j := 33) C dX5_layDown_27 f5_37 bn_25 sh_25 (rf_25_12 hR) ?_
    refine am_aload_n (pc := 30) C dX5_layDown_30 rfl ?_
    refine am_getI (pc := 31) C dX5_layDown_31 f5_67 bn_25 sh_25 ?_
    refine am_top (show ((gA 25) 4) = (nI (rf_F (rf_remove w 0))) from (hSA.1.1.2.2.2.2.trans hVA.2.2.2.2.1.2.2.1.1)) ?_
    refine am_iload_n (pc := 34) C dX5_layDown_34 rfl ?_
    refine am_callSNv (Y := mX11_put) (pc := 35) (st := []) (As := [.ref 33, .int (nI (rf_F (rf_remove w 0))), .int p]) (h2 := (am_row (am_row gA 32 (upd (gA 32) (rf_F (rf_remove w 0)) m)) 33 (upd (gA 33) (rf_F (rf_remove w 0)) p))) C dX5_layDown_35 k5_79 v_X11_put rfl rfl (by decide) (Nat.zero_le _) (Nat.zero_le _) (Nat.le_of_ble_eq_true rfl) (c_X11_put 33 (rf_F (rf_remove w 0)) p 40 bn_33 sh_33 (show rf_F (rf_remove w 0) < 40 from by omega) (by decide)) ?_
    refine am_aload_n (pc := 38) C dX5_layDown_38 rfl ?_
    refine am_getR (pc := 39) (j := 34) C dX5_layDown_39 f5_40 bn_25 sh_25 (rf_25_13 hR) ?_
    refine am_aload_n (pc := 42) C dX5_layDown_42 rfl ?_
    refine am_getI (pc := 43) C dX5_layDown_43 f5_67 bn_25 sh_25 ?_
    refine am_top (show ((gA 25) 4) = (nI (rf_F (rf_remove w 0))) from (hSA.1.1.2.2.2.2.trans hVA.2.2.2.2.1.2.2.1.1)) ?_
    refine am_iload_n (pc := 46) C dX5_layDown_46 rfl ?_
    refine am_callSNv (Y := mX11_put) (pc := 47) (st := []) (As := [.ref 34, .int (nI (rf_F (rf_remove w 0))), .int x]) (h2 := (am_row (am_row (am_row gA 32 (upd (gA 32) (rf_F (rf_remove w 0)) m)) 33 (upd (gA 33) (rf_F (rf_remove w 0)) p)) 34 (upd (gA 34) (rf_F (rf_remove w 0)) x))) C dX5_layDown_47 k5_79 v_X11_put rfl rfl (by decide) (Nat.zero_le _) (Nat.zero_le _) (Nat.le_of_ble_eq_true rfl) (c_X11_put 34 (rf_F (rf_remove w 0)) x 40 bn_34 sh_34 (show rf_F (rf_remove w 0) < 40 from by omega) (by decide)) ?_
    refine am_aload_n (pc := 50) C dX5_layDown_50 rfl ?_
    refine am_dup (pc := 51) C dX5_layDown_51 rfl ?_
    refine am_getI (pc := 52) C dX5_layDown_52 f5_67 bn_25 sh_25 ?_
    refine am_top (show ((gA 25) 4) = (nI (rf_F (rf_remove w 0))) from (hSA.1.1.2.2.2.2.trans hVA.2.2.2.2.1.2.2.1.1)) ?_
    refine am_iconstN (pc := 55) (k := 1) C dX5_layDown_55 ?_
    refine am_iaddN (pc := 56) C dX5_layDown_56 ?_
    refine am_putI (pc := 57) C dX5_layDown_57 f5_67 bn_25 sh_25 rfl rfl ?_
    refine am_hp (show am_up (am_row (am_row (am_row gA 32 (upd (gA 32) (rf_F (rf_remove w 0)) m)) 33 (upd (gA 33) (rf_F (rf_remove w 0)) p)) 34 (upd (gA 34) (rf_F (rf_remove w 0)) x)) 25 4 (nI ((rf_F (rf_remove w 0)) + 1)) = am_row (am_row (am_row (am_row gA 32 (upd (gA 32) (rf_F (rf_remove w 0)) m)) 33 (upd (gA 33) (rf_F (rf_remove w 0)) p)) 34 (upd (gA 34) (rf_F (rf_remove w 0)) x)) 25 (upd (gA 25) 4 (nI ((rf_F (rf_remove w 0)) + 1))) from am_up_rw _ _ _ _) ?_
    exact am_vretvr T dX5_layDown_60 rfl (Nat.le_refl _) (Nat.le_refl _) rfl ⟨by rw [rf_lie, if_pos hF40]; exact (cl_Sc_put hVA (by omega) hSA.1 rfl (fun i h7 g7 n7 n8 n9 => by rw [am_row_ne _ _ _ (by omega), am_row_ne _ _ _ (by omega), am_row_ne _ _ _ (by omega), am_row_ne _ _ _ (by omega)]) rfl rfl rfl).1, (fun i9 h9 => by rw [am_row_ne _ _ _ (by omega), am_row_ne _ _ _ (by omega), am_row_ne _ _ _ (by omega), am_row_ne _ _ _ (by omega)]; exact hFA i9 h9)⟩

set_option maxHeartbeats 400000 in
set_option maxRecDepth 100000 in
theorem c_X5_writeRow {ad : Nat → Nat} {r : am_R} (hR : am_rs r) {h : am_H} (y : Int32) (x : Int32) (m : Int32) (good : Bool) (w : rf_W) (hV : rf_I w) (hSc : cl_Sc (h) 25 w) (hB : rf_n (w 7) 2147483647)  : am_CM mX5_writeRow 1 0 0 [.ref 25, .int y, .int x, .int m, .int (am_b good)] (am_VV ad) r h (am_pr none r (fun c9 => cl_Sc c9 25 (rf_logs w y x m good) ∧ cl_fr (h) c9 25 15)) := by
  refine am_CM.of (by decide +kernel) (Nat.le_of_ble_eq_true rfl) (fun X C T => ?_)
  show am_G X (am_VV ad) (0, 0) 0 [(0, .ref 25), (1, .int y), (2, .int x), (3, .int m), (4, .int (am_b good))] [] r h
  have hM9 : rf_M w < 17 := hV.1.1.2
  have hS9 : rf_S w < 11 := hV.1.2.1.2
  have hO9 : rf_O w < 11 := hV.1.2.2.2
  have hB9 : rf_nat (w 7) < 2147483647 := hB.2
  refine am_aload_n (pc := 0) C dX5_writeRow_0 rfl ?_
  refine am_getI (pc := 1) C dX5_writeRow_1 f5_61 bn_25 sh_25 ?_
  refine am_top (show ((h 25) 2) = (w 7) from hSc.1.2.2.1) ?_
  refine am_top (show (w 7) = (nI (rf_nat (w 7))) from hB.1) ?_
  refine am_bipush (pc := 4) (v := nI 60) C dX5_writeRow_4 (by decide) ?_
  refine am_iremN (pc := 6) C dX5_writeRow_6 (by omega) (by omega) (by omega) ?_
  refine am_istore (pc := 7) (ls' := [(0, .ref 25), (1, .int y), (2, .int x), (3, .int m), (4, .int (am_b good)), (5, .int (nI ((rf_nat (w 7)) % 60)))]) C dX5_writeRow_7 (by decide) rfl ?_
  refine am_aload_n (pc := 9) C dX5_writeRow_9 rfl ?_
  refine am_getR (pc := 10) (j := 35) C dX5_writeRow_10 f5_43 bn_25 sh_25 (rf_25_14 hR) ?_
  refine am_iload (pc := 13) C dX5_writeRow_13 rfl ?_
  refine am_aload_n (pc := 15) C dX5_writeRow_15 rfl ?_
  refine am_getI (pc := 16) C dX5_writeRow_16 f5_58 bn_25 sh_25 ?_
  refine am_top (show ((h 25) 0) = (w 5) from hSc.1.1) ?_
  refine am_callSNv (Y := mX11_put) (pc := 19) (st := []) (As := [.ref 35, .int (nI ((rf_nat (w 7)) % 60)), .int (w 5)]) (h2 := (am_row h 35 (upd (h 35) ((rf_nat (w 7)) % 60) (w 5)))) C dX5_writeRow_19 k5_79 v_X11_put rfl rfl (by decide) (Nat.zero_le _) (Nat.zero_le _) (Nat.le_of_ble_eq_true rfl) (c_X11_put 35 ((rf_nat (w 7)) % 60) (w 5) 60 bn_35 sh_35 (show (rf_nat (w 7)) % 60 < 60 from by omega) (by decide)) ?_
  refine am_aload_n (pc := 22) C dX5_writeRow_22 rfl ?_
  refine am_getR (pc := 23) (j := 36) C dX5_writeRow_23 f5_46 bn_25 sh_25 (rf_25_15 hR) ?_
  refine am_iload (pc := 26) C dX5_writeRow_26 rfl ?_
  refine am_iload_n (pc := 28) C dX5_writeRow_28 rfl ?_
  refine am_callSNv (Y := mX11_put) (pc := 29) (st := []) (As := [.ref 36, .int (nI ((rf_nat (w 7)) % 60)), .int y]) (h2 := (am_row (am_row h 35 (upd (h 35) ((rf_nat (w 7)) % 60) (w 5))) 36 (upd (h 36) ((rf_nat (w 7)) % 60) y))) C dX5_writeRow_29 k5_79 v_X11_put rfl rfl (by decide) (Nat.zero_le _) (Nat.zero_le _) (Nat.le_of_ble_eq_true rfl) (c_X11_put 36 ((rf_nat (w 7)) % 60) y 60 bn_36 sh_36 (show (rf_nat (w 7)) % 60 < 60 from by omega) (by decide)) ?_
  refine am_aload_n (pc := 32) C dX5_writeRow_32 rfl ?_
  refine am_getR (pc := 33) (j := 37) C dX5_writeRow_33 f5_49 bn_25 sh_25 (rf_25_16 hR) ?_
  refine am_iload (pc := 36) C dX5_writeRow_36 rfl ?_
  refine am_iload_n (pc := 38) C dX5_writeRow_38 rfl ?_
  refine am_callSNv (Y := mX11_put) (pc := 39) (st := []) (As := [.ref 37, .int (nI ((rf_nat (w 7)) % 60)), .int x]) (h2 := (am_row (am_row (am_row h 35 (upd (h 35) ((rf_nat (w 7)) % 60) (w 5))) 36 (upd (h 36) ((rf_nat (w 7)) % 60) y)) 37 (upd (h 37) ((rf_nat (w 7)) % 60) x))) C dX5_writeRow_39 k5_79 v_X11_put rfl rfl (by decide) (Nat.zero_le _) (Nat.zero_le _) (Nat.le_of_ble_eq_true rfl) (c_X11_put 37 ((rf_nat (w 7)) % 60) x 60 bn_37 sh_37 (show (rf_nat (w 7)) % 60 < 60 from by omega) (by decide)) ?_
  refine am_aload_n (pc := 42) C dX5_writeRow_42 rfl ?_
  refine am_getR (pc := 43) (j := 38) C dX5_writeRow_43 f5_52 bn_25 sh_25 (rf_25_17 hR) ?_
  refine am_iload (pc := 46) C dX5_writeRow_46 rfl ?_
  refine am_iload_n (pc := 48) C dX5_writeRow_48 rfl ?_
  refine am_callSNv (Y := mX11_put) (pc := 49) (st := []) (As := [.ref 38, .int (nI ((rf_nat (w 7)) % 60)), .int m]) (h2 := (am_row (am_row (am_row (am_row h 35 (upd (h 35) ((rf_nat (w 7)) % 60) (w 5))) 36 (upd (h 36) ((rf_nat (w 7)) % 60) y)) 37 (upd (h 37) ((rf_nat (w 7)) % 60) x)) 38 (upd (h 38) ((rf_nat (w 7)) % 60) m))) C dX5_writeRow_49 k5_79 v_X11_put rfl rfl (by decide) (Nat.zero_le _) (Nat.zero_le _) (Nat.le_of_ble_eq_true rfl) (c_X11_put 38 ((rf_nat (w 7)) % 60) m 60 bn_38 sh_38 (show (rf_nat (w 7)) % 60 < 60 from by omega) (by decide)) ?_
  refine am_aload_n (pc := 52) C dX5_writeRow_52 rfl ?_
  refine am_getR (pc := 53) (j := 39) C dX5_writeRow_53 f5_55 bn_25 sh_25 (rf_25_18 hR) ?_
  refine am_iload (pc := 56) C dX5_writeRow_56 rfl ?_
  refine am_iload (pc := 58) C dX5_writeRow_58 rfl ?_
  refine am_if_eqB (pc := 60) (tgt := 67) C dX5_writeRow_60 (by decide) (fun q60 => ?_) (fun q60 => ?_)
  · skip
    refine am_iconstN (pc := 67) (k := 0) C dX5_writeRow_67 ?_
    refine am_top (show (nI 0) = (am_b good) from (by rw [q60]; rfl)) ?_
    refine am_callSNv (Y := mX11_put) (pc := 68) (st := []) (As := [.ref 39, .int (nI ((rf_nat (w 7)) % 60)), .int (am_b good)]) (h2 := (am_row (am_row (am_row (am_row (am_row h 35 (upd (h 35) ((rf_nat (w 7)) % 60) (w 5))) 36 (upd (h 36) ((rf_nat (w 7)) % 60) y)) 37 (upd (h 37) ((rf_nat (w 7)) % 60) x)) 38 (upd (h 38) ((rf_nat (w 7)) % 60) m)) 39 (upd (h 39) ((rf_nat (w 7)) % 60) (am_b good)))) C dX5_writeRow_68 k5_79 v_X11_put rfl rfl (by decide) (Nat.zero_le _) (Nat.zero_le _) (Nat.le_of_ble_eq_true rfl) (c_X11_put 39 ((rf_nat (w 7)) % 60) (am_b good) 60 bn_39 sh_39 (show (rf_nat (w 7)) % 60 < 60 from by omega) (by decide)) ?_
    refine am_aload_n (pc := 71) C dX5_writeRow_71 rfl ?_
    refine am_dup (pc := 72) C dX5_writeRow_72 rfl ?_
    refine am_getI (pc := 73) C dX5_writeRow_73 f5_61 bn_25 sh_25 ?_
    refine am_top (show ((h 25) 2) = (w 7) from hSc.1.2.2.1) ?_
    refine am_top (show (w 7) = (nI (rf_nat (w 7))) from hB.1) ?_
    refine am_iconstN (pc := 76) (k := 1) C dX5_writeRow_76 ?_
    refine am_iaddN (pc := 77) C dX5_writeRow_77 ?_
    refine am_putI (pc := 78) C dX5_writeRow_78 f5_61 bn_25 sh_25 rfl rfl ?_
    refine am_hp (show am_up (am_row (am_row (am_row (am_row (am_row h 35 (upd (h 35) ((rf_nat (w 7)) % 60) (w 5))) 36 (upd (h 36) ((rf_nat (w 7)) % 60) y)) 37 (upd (h 37) ((rf_nat (w 7)) % 60) x)) 38 (upd (h 38) ((rf_nat (w 7)) % 60) m)) 39 (upd (h 39) ((rf_nat (w 7)) % 60) (am_b good))) 25 2 (nI ((rf_nat (w 7)) + 1)) = am_row (am_row (am_row (am_row (am_row (am_row h 35 (upd (h 35) ((rf_nat (w 7)) % 60) (w 5))) 36 (upd (h 36) ((rf_nat (w 7)) % 60) y)) 37 (upd (h 37) ((rf_nat (w 7)) % 60) x)) 38 (upd (h 38) ((rf_nat (w 7)) % 60) m)) 39 (upd (h 39) ((rf_nat (w 7)) % 60) (am_b good))) 25 (upd (h 25) 2 (nI ((rf_nat (w 7)) + 1))) from am_up_rw _ _ _ _) ?_
    exact am_vretvr T dX5_writeRow_81 rfl (Nat.le_refl _) (Nat.le_refl _) rfl ⟨(cl_Sc_logs (g := good) hV hB hSc rfl (fun i h7 g7 => by rw [am_row_ne _ _ _ (by omega), am_row_ne _ _ _ (by omega), am_row_ne _ _ _ (by omega), am_row_ne _ _ _ (by omega), am_row_ne _ _ _ (by omega), am_row_ne _ _ _ (by omega)]) rfl rfl rfl rfl rfl).1, (fun i9 h9 => by rw [am_row_ne _ _ _ (by omega), am_row_ne _ _ _ (by omega), am_row_ne _ _ _ (by omega), am_row_ne _ _ _ (by omega), am_row_ne _ _ _ (by omega), am_row_ne _ _ _ (by omega)])⟩
  · skip
    refine am_iconstN (pc := 63) (k := 1) C dX5_writeRow_63 ?_
    refine am_goto (pc := 64) (tgt := 68) C dX5_writeRow_64 (by decide) ?_
    refine am_top (show (nI 1) = (am_b good) from (by rw [q60]; rfl)) ?_
    refine am_callSNv (Y := mX11_put) (pc := 68) (st := []) (As := [.ref 39, .int (nI ((rf_nat (w 7)) % 60)), .int (am_b good)]) (h2 := (am_row (am_row (am_row (am_row (am_row h 35 (upd (h 35) ((rf_nat (w 7)) % 60) (w 5))) 36 (upd (h 36) ((rf_nat (w 7)) % 60) y)) 37 (upd (h 37) ((rf_nat (w 7)) % 60) x)) 38 (upd (h 38) ((rf_nat (w 7)) % 60) m)) 39 (upd (h 39) ((rf_nat (w 7)) % 60) (am_b good)))) C dX5_writeRow_68 k5_79 v_X11_put rfl rfl (by decide) (Nat.zero_le _) (Nat.zero_le _) (Nat.le_of_ble_eq_true rfl) (c_X11_put 39 ((rf_nat (w 7)) % 60) (am_b good) 60 bn_39 sh_39 (show (rf_nat (w 7)) % 60 < 60 from by omega) (by decide)) ?_
    refine am_aload_n (pc := 71) C dX5_writeRow_71 rfl ?_
    refine am_dup (pc := 72) C dX5_writeRow_72 rfl ?_
    refine am_getI (pc := 73) C dX5_writeRow_73 f5_61 bn_25 sh_25 ?_
    refine am_top (show ((h 25) 2) = (w 7) from hSc.1.2.2.1) ?_
    refine am_top (show (w 7) = (nI (rf_nat (w 7))) from hB.1) ?_
    refine am_iconstN (pc := 76) (k := 1) C dX5_writeRow_76 ?_
    refine am_iaddN (pc := 77) C dX5_writeRow_77 ?_
    refine am_putI (pc := 78) C dX5_writeRow_78 f5_61 bn_25 sh_25 rfl rfl ?_
    refine am_hp (show am_up (am_row (am_row (am_row (am_row (am_row h 35 (upd (h 35) ((rf_nat (w 7)) % 60) (w 5))) 36 (upd (h 36) ((rf_nat (w 7)) % 60) y)) 37 (upd (h 37) ((rf_nat (w 7)) % 60) x)) 38 (upd (h 38) ((rf_nat (w 7)) % 60) m)) 39 (upd (h 39) ((rf_nat (w 7)) % 60) (am_b good))) 25 2 (nI ((rf_nat (w 7)) + 1)) = am_row (am_row (am_row (am_row (am_row (am_row h 35 (upd (h 35) ((rf_nat (w 7)) % 60) (w 5))) 36 (upd (h 36) ((rf_nat (w 7)) % 60) y)) 37 (upd (h 37) ((rf_nat (w 7)) % 60) x)) 38 (upd (h 38) ((rf_nat (w 7)) % 60) m)) 39 (upd (h 39) ((rf_nat (w 7)) % 60) (am_b good))) 25 (upd (h 25) 2 (nI ((rf_nat (w 7)) + 1))) from am_up_rw _ _ _ _) ?_
    exact am_vretvr T dX5_writeRow_81 rfl (Nat.le_refl _) (Nat.le_refl _) rfl ⟨(cl_Sc_logs (g := good) hV hB hSc rfl (fun i h7 g7 => by rw [am_row_ne _ _ _ (by omega), am_row_ne _ _ _ (by omega), am_row_ne _ _ _ (by omega), am_row_ne _ _ _ (by omega), am_row_ne _ _ _ (by omega), am_row_ne _ _ _ (by omega)]) rfl rfl rfl rfl rfl).1, (fun i9 h9 => by rw [am_row_ne _ _ _ (by omega), am_row_ne _ _ _ (by omega), am_row_ne _ _ _ (by omega), am_row_ne _ _ _ (by omega), am_row_ne _ _ _ (by omega), am_row_ne _ _ _ (by omega)])⟩

