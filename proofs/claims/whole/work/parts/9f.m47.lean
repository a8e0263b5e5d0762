/-! THE CLASS: the text of a war, line by line -/
section M47
def cl_f1 (h c : am_H) : Prop := ∀ i, i ≠ 1 ∧ i ≠ 130 → c i = h i
/-- a set has been read, or not -/
def cl_RS (h c : am_H) (t : rf_W) (x : Int32 × rf_W) : Prop := (x.1 < 0 → (c 1) 3 = nI (rf_b x.2)) ∧ (¬ x.1 < 0 → cl_to c t x.2 ∧ (c 130) 3 = x.1) ∧ cl_f1 h c
def cl_mr (t w : rf_W) (n f : Nat) (x : Int32) (q : rf_W) : Int32 × rf_W := if n = 0 ∨ rf_rFig t q = true then rf_ms t w f x q else (x, q)
theorem cl_lo_nn {x : Int32} {n : Nat} (hn : n < 17) (h : am_lo x n) : ¬ x < 0 := by
  obtain ⟨e, h2⟩ := am_lo_n (k := 16) (by decide) (am_lo_mono h (by omega))
  rw [e]; exact nI_pos (by have : (2 : Nat) ^ 16 = 65536 := rfl; omega)
theorem cl_fig_end {t o : rf_W} (hT : rf_To o) (h : 400 ≤ rf_p o) : rf_rFig t o = false := by
  obtain ⟨a, b, _, d, e, f, g⟩ := rf_S_le (t := t) hT
  exact rf_at_ge (by omega)
theorem cl_fig_f {t o : rf_W} (h : cl_kd t (rf_e o) (rf_SB t o) ≠ 2) : rf_rFig t o = false := (Bool.not_eq_true _).mp (fun z => h (cl_kd_fig.mpr z))
theorem cl_fig_bl {t o : rf_W} (hT : rf_To o) : rf_rFig t (rf_oBl t o) = rf_rFig t o := by
  show rf_at t (rf_e (rf_oBl t o)) (rf_SB t (rf_oBl t o)) 48 57 = rf_at t (rf_e o) (rf_SB t o) 48 57
  rw [rf_e_bl, rf_SB_bl hT]
theorem cl_mr_go {t w q : rf_W} {n : Nat} {x : Int32} (hT : rf_To (rf_oNum t q)) (hf : rf_rFig t q = true) (hr : rf_rM t q w ≠ 0) (hn : n < 401) : cl_mr t w n (402 - n) x q = cl_mr t w (n + 1) (402 - (n + 1)) (x ||| rf_bit (rf_rM t q w - 1)) (rf_oBl t (rf_oNum t q)) := by
  rw [cl_mr, if_pos (Or.inr hf), show 402 - n = (402 - (n + 1)) + 1 by omega, rf_ms, if_neg hr, cl_mr, cl_fig_bl hT]
  cases hz : rf_rFig t (rf_oNum t q) with
  | true => rw [if_pos (Or.inr rfl)]; rfl
  | false => rw [if_neg (fun z => z.elim (fun y => absurd y (by omega)) (fun y => Bool.false_ne_true y))]; rfl
theorem cl_mr_bad {t w q : rf_W} {n : Nat} {x : Int32} (hf : n = 0 ∨ rf_rFig t q = true) (hr : rf_rM t q w = 0) (hn : n < 401) : cl_mr t w n (402 - n) x q = (-1, rf_oNum t q) := by
  rw [cl_mr, if_pos hf, show 402 - n = (402 - (n + 1)) + 1 by omega, rf_ms, if_pos hr]
theorem cl_mr_end {t w q : rf_W} {n f : Nat} {x : Int32} (hn : n ≠ 0) (hf : rf_rFig t q = false) : cl_mr t w n f x q = (x, q) := by
  rw [cl_mr, if_neg (fun z => z.elim hn (fun y => Bool.false_ne_true (hf.symm.trans y)))]
end M47

set_option maxHeartbeats 400000 in
set_option maxRecDepth 100000 in
theorem c_X9_isMemory {ad : Nat → Nat} {r : am_R} (hR : am_rs r) {h : am_H}  (t : rf_W) (o : rf_W) (K : cl_to (h) t o) (w : rf_W) (hV : rf_I w) (hLo : cl_Lo (h) 57 w)  : am_CM mX9_isMemory 1 0 0 [.ref 130] (am_VV ad) r h (am_po (some (.int (am_b (decide (rf_rM t o w ≠ 0))))) r h) := by
  refine am_CM.of (by decide +kernel) (Nat.le_of_ble_eq_true rfl) (fun X C T => ?_)
  show am_G X (am_VV ad) (0, 0) 0 [(0, .ref 130)] [] r h
  have hM9 : rf_M w < 17 := hV.1.1.2
  have hS9 : rf_S w < 11 := hV.1.2.1.2
  have hO9 : rf_O w < 11 := hV.1.2.2.2
  refine am_aload_n (pc := 0) C dX9_isMemory_0 rfl ?_
  refine am_getR (pc := 1) (j := 1) C dX9_isMemory_1 f9_9 bn_130 sh_130 (rf_130_0 hR) ?_
  refine am_iconstN (pc := 4) (k := 0) C dX9_isMemory_4 ?_
  refine am_aload_n (pc := 5) C dX9_isMemory_5 rfl ?_
  refine am_getR (pc := 6) (j := 57) C dX9_isMemory_6 f9_25 bn_130 sh_130 (rf_130_2 hR) ?_
  refine am_getI (pc := 9) C dX9_isMemory_9 f9_82 bn_57 sh_57 ?_
  refine am_top (show ((h 57) 1) = (nI (rf_M w)) from (hLo.1.2.1.trans hV.1.1.1)) ?_
  refine am_iconstN (pc := 12) (k := 1) C dX9_isMemory_12 ?_
  refine am_isub (pc := 13) C dX9_isMemory_13 ?_
  refine am_callVi (Y := mX8_isNumber) (pc := 14) (st := []) (As := [.int (nI 0), .int ((nI (rf_M w)) - (nI 1))]) (x := (am_b (decide (rf_rNum t o 0 ((nI (rf_M w)) - (nI 1)) ≠ 0)))) (h2 := h) C dX9_isMemory_14 k9_90 v_X8_isNumber rfl rfl bn_1 sh_1 ⟨by decide, rfl⟩ (by decide) (Nat.zero_le _) (Nat.zero_le _) (Nat.le_of_ble_eq_true rfl) (c_X8_isNumber_o (h := h) hR 0 ((nI (rf_M w)) - (nI 1)) t o (show cl_to (h) t o from K) (show 0 < 1000 from (by decide))) ?_
  exact am_iretb T dX9_isMemory_17 rfl (Nat.le_refl _) (Nat.le_refl _) rfl rfl rfl

set_option maxHeartbeats 400000 in
set_option maxRecDepth 100000 in
theorem c_X9_isSoldier {ad : Nat → Nat} {r : am_R} (hR : am_rs r) {h : am_H}  (t : rf_W) (o : rf_W) (K : cl_to (h) t o) (w : rf_W) (hV : rf_I w) (hLo : cl_Lo (h) 57 w)  : am_CM mX9_isSoldier 1 0 0 [.ref 130] (am_VV ad) r h (am_po (some (.int (am_b (decide (rf_rS t o w ≠ 0))))) r h) := by
  refine am_CM.of (by decide +kernel) (Nat.le_of_ble_eq_true rfl) (fun X C T => ?_)
  show am_G X (am_VV ad) (0, 0) 0 [(0, .ref 130)] [] r h
  have hM9 : rf_M w < 17 := hV.1.1.2
  have hS9 : rf_S w < 11 := hV.1.2.1.2
  have hO9 : rf_O w < 11 := hV.1.2.2.2
  refine am_aload_n (pc := 0) C dX9_isSoldier_0 rfl ?_
  refine am_getR (pc := 1) (j := 1) C dX9_isSoldier_1 f9_9 bn_130 sh_130 (rf_130_0 hR) ?_
  refine am_iconstN (pc := 4) (k := 0) C dX9_isSoldier_4 ?_
  refine am_aload_n (pc := 5) C dX9_isSoldier_5 rfl ?_
  refine am_getR (pc := 6) (j := 57) C dX9_isSoldier_6 f9_25 bn_130 sh_130 (rf_130_2 hR) ?_
  refine am_getI (pc := 9) C dX9_isSoldier_9 f9_109 bn_57 sh_57 ?_
  refine am_top (show ((h 57) 2) = (nI (rf_S w)) from (hLo.1.2.2.1.trans hV.1.2.1.1)) ?_
  refine am_iconstN (pc := 12) (k := 1) C dX9_isSoldier_12 ?_
  refine am_isub (pc := 13) C dX9_isSoldier_13 ?_
  refine am_callVi (Y := mX8_isNumber) (pc := 14) (st := []) (As := [.int (nI 0), .int ((nI (rf_S w)) - (nI 1))]) (x := (am_b (decide (rf_rNum t o 0 ((nI (rf_S w)) - (nI 1)) ≠ 0)))) (h2 := h) C dX9_isSoldier_14 k9_90 v_X8_isNumber rfl rfl bn_1 sh_1 ⟨by decide, rfl⟩ (by decide) (Nat.zero_le _) (Nat.zero_le _) (Nat.le_of_ble_eq_true rfl) (c_X8_isNumber_o (h := h) hR 0 ((nI (rf_S w)) - (nI 1)) t o (show cl_to (h) t o from K) (show 0 < 1000 from (by decide))) ?_
  exact am_iretb T dX9_isSoldier_17 rfl (Nat.le_refl _) (Nat.le_refl _) rfl rfl rfl

set_option maxHeartbeats 400000 in
set_option maxRecDepth 100000 in
theorem c_X9_readSet {ad : Nat → Nat} {r : am_R} (hR : am_rs r) {h : am_H}  (t : rf_W) (o : rf_W) (hT : rf_To o) (K : cl_to (h) t o) (w : rf_W) (hV : rf_I w) (hLo : cl_Lo (h) 57 w)  : am_CM mX9_readSet 3 0 0 [.ref 130] (am_VV ad) r h (am_pr (some (.int (am_b (!decide ((rf_mt t o w).1 < 0))))) r (fun c9 => cl_RS (h) c9 t (rf_mt t o w))) := by
  refine am_CM.of (by decide +kernel) (Nat.le_of_ble_eq_true rfl) (fun X C T => ?_)
  show am_G X (am_VV ad) (0, 0) 0 [(0, .ref 130)] [] r h
  have hM9 : rf_M w < 17 := hV.1.1.2
  have hS9 : rf_S w < 11 := hV.1.2.1.2
  have hO9 : rf_O w < 11 := hV.1.2.2.2
  refine am_aload_n (pc := 0) C dX9_readSet_0 rfl ?_
  refine am_iconstN (pc := 1) (k := 0) C dX9_readSet_1 ?_
  refine am_putI (pc := 2) C dX9_readSet_2 f9_102 bn_130 sh_130 rfl rfl ?_
  refine am_hp (show am_up h 130 3 (nI 0) = am_row h 130 (upd (h 130) 3 (nI 0)) from am_up_rw _ _ _ _) ?_
  refine am_iconstN (pc := 5) (k := 0) C dX9_readSet_5 ?_
  refine am_istore_n (pc := 6) (ls' := [(0, .ref 130), (1, .int (nI 0))]) C dX9_readSet_6 (by decide) rfl ?_
  have L7 : ∀ (j7 : Nat) (gk : am_H) (n : Nat) (q : rf_W) (x : Int32), (hnj : n + j7 = 400) → (hTq : rf_To q) → (hKq : cl_to gk t q) → (hxq : (gk 130) 3 = x) → (hFk : cl_f1 h gk) → (hnp : n ≤ rf_p q) → (hxl : am_lo x (rf_M w)) → (hms : rf_mt t o w = cl_mr t w n (402 - n) x q) → am_G X (am_VV ad) (0, 0) 7 [(0, .ref 130), (1, .int (nI n))] [] r gk := by
    intro j7
    induction j7 with
    | zero =>
      intro gk n q x hnj hTq hKq hxq hFk hnp hxl hms
      have hkd4 : cl_kd t (rf_e q) (rf_SB t q) < 4 := cl_kd_lt
      have hf9 : rf_rFig t q = false := cl_fig_end hTq (by omega)
      refine am_iload_n (pc := 7) C dX9_readSet_7 rfl ?_
      refine am_sipush (pc := 8) (v := nI 400) C dX9_readSet_8 (by decide) ?_
      refine am_icmp_geN (pc := 11) (tgt := 65) C dX9_readSet_11 (by decide) (by omega) (by omega) (fun q11 => ?_) (fun q11 => ?_)
      · skip
        refine am_iload_n (pc := 65) C dX9_readSet_65 rfl ?_
        refine am_if_leN (pc := 66) (tgt := 73) C dX9_readSet_66 (by decide) (by omega) (fun q66 => ?_) (fun q66 => ?_)
        · skip
          have E9 : rf_mt t o w = (-1, rf_oNum t q) := hms.trans (cl_mr_bad (Or.inl (by omega)) (cl_num_z hf9) (by omega))
          refine am_iconstN (pc := 73) (k := 0) C dX9_readSet_73 ?_
          exact am_iretbr T dX9_readSet_74 rfl (Nat.le_refl _) (Nat.le_refl _) (by rw [E9]; rfl) rfl (by rw [E9]; exact ⟨fun _ => (cl_to_b hKq).trans (congrArg nI (rf_b_num hTq).symm), fun z => absurd (show (-1 : Int32) < 0 by decide) z, (fun i h9 => hFk i (by omega))⟩)
        · skip
          have E9 : rf_mt t o w = (x, q) := hms.trans (cl_mr_end (by omega) hf9)
          refine am_iconstN (pc := 69) (k := 1) C dX9_readSet_69 ?_
          refine am_goto (pc := 70) (tgt := 74) C dX9_readSet_70 (by decide) ?_
          exact am_iretbr T dX9_readSet_74 rfl (Nat.le_refl _) (Nat.le_refl _) (by rw [E9, decide_eq_false (cl_lo_nn hM9 hxl)]; rfl) rfl (by rw [E9]; exact ⟨fun z => absurd z (cl_lo_nn hM9 hxl), fun _ => ⟨hKq, hxq⟩, (fun i h9 => hFk i (by omega))⟩)
      · skip
        exact absurd q11 (by omega)
    | succ j7 ih7 =>
      intro gk n q x hnj hTq hKq hxq hFk hnp hxl hms
      have hkd4 : cl_kd t (rf_e q) (rf_SB t q) < 4 := cl_kd_lt
      have hTn := rf_Tm_num (t := t) hTq
      have hTb := rf_Tm_bl (t := t) hTn.1
      refine am_iload_n (pc := 7) C dX9_readSet_7 rfl ?_
      refine am_sipush (pc := 8) (v := nI 400) C dX9_readSet_8 (by decide) ?_
      refine am_icmp_geN (pc := 11) (tgt := 65) C dX9_readSet_11 (by decide) (by omega) (by omega) (fun q11 => ?_) (fun q11 => ?_)
      · skip
        exact absurd q11 (by omega)
      · skip
        refine am_aload_n (pc := 14) C dX9_readSet_14 rfl ?_
        refine am_getR (pc := 15) (j := 1) C dX9_readSet_15 f9_9 bn_130 sh_130 (rf_130_0 hR) ?_
        refine am_getI (pc := 18) C dX9_readSet_18 f9_31 bn_1 sh_1 ?_
        refine am_top (show ((gk 1) 2) = (nI (cl_kd t (rf_e q) (rf_SB t q))) from (cl_to_k hKq)) ?_
        refine am_iconstN (pc := 21) (k := 2) C dX9_readSet_21 ?_
        refine am_icmp_neN (pc := 22) (tgt := 65) C dX9_readSet_22 (by decide) (by omega) (by omega) (fun q22 => ?_) (fun q22 => ?_)
        · skip
          refine am_iload_n (pc := 65) C dX9_readSet_65 rfl ?_
          refine am_if_leN (pc := 66) (tgt := 73) C dX9_readSet_66 (by decide) (by omega) (fun q66 => ?_) (fun q66 => ?_)
          · skip
            have E9 : rf_mt t o w = (-1, rf_oNum t q) := hms.trans (cl_mr_bad (Or.inl (by omega)) (cl_num_z (cl_fig_f q22)) (by omega))
            refine am_iconstN (pc := 73) (k := 0) C dX9_readSet_73 ?_
            exact am_iretbr T dX9_readSet_74 rfl (Nat.le_refl _) (Nat.le_refl _) (by rw [E9]; rfl) rfl (by rw [E9]; exact ⟨fun _ => (cl_to_b hKq).trans (congrArg nI (rf_b_num hTq).symm), fun z => absurd (show (-1 : Int32) < 0 by decide) z, (fun i h9 => hFk i (by omega))⟩)
          · skip
            have E9 : rf_mt t o w = (x, q) := hms.trans (cl_mr_end (by omega) (cl_fig_f q22))
            refine am_iconstN (pc := 69) (k := 1) C dX9_readSet_69 ?_
            refine am_goto (pc := 70) (tgt := 74) C dX9_readSet_70 (by decide) ?_
            exact am_iretbr T dX9_readSet_74 rfl (Nat.le_refl _) (Nat.le_refl _) (by rw [E9, decide_eq_false (cl_lo_nn hM9 hxl)]; rfl) rfl (by rw [E9]; exact ⟨fun z => absurd z (cl_lo_nn hM9 hxl), fun _ => ⟨hKq, hxq⟩, (fun i h9 => hFk i (by omega))⟩)
        · skip
          refine am_aload_n (pc := 25) C dX9_readSet_25 rfl ?_
          refine am_callVi (Y := mX9_isMemory) (pc := 26) (st := []) (As := []) (x := (am_b (decide (rf_rM t q w ≠ 0)))) (h2 := gk) C dX9_readSet_26 k9_135 v_X9_isMemory rfl rfl bn_130 sh_130 ⟨by decide, rfl⟩ (by decide) (Nat.zero_le _) (Nat.zero_le _) (Nat.le_of_ble_eq_true rfl) (c_X9_isMemory (h := gk) hR t q (show cl_to (gk) t q from hKq) w (show rf_I w from hV) (cl_Lo_eq (fun i a b => hFk i (by omega)) hLo)) ?_
          refine am_if_neB (pc := 29) (tgt := 34) C dX9_readSet_29 (by decide) (fun q29 => ?_) (fun q29 => ?_)
          · skip
            refine am_aload_n (pc := 34) C dX9_readSet_34 rfl ?_
            refine am_dup (pc := 35) C dX9_readSet_35 rfl ?_
            refine am_getI (pc := 36) C dX9_readSet_36 f9_102 bn_130 sh_130 ?_
            refine am_top (show ((gk 130) 3) = x from hxq) ?_
            refine am_iconstN (pc := 39) (k := 1) C dX9_readSet_39 ?_
            refine am_aload_n (pc := 40) C dX9_readSet_40 rfl ?_
            refine am_getR (pc := 41) (j := 1) C dX9_readSet_41 f9_9 bn_130 sh_130 (rf_130_0 hR) ?_
            refine am_getI (pc := 44) C dX9_readSet_44 f9_94 bn_1 sh_1 ?_
            refine am_top (show ((gk 1) 5) = (nI (rf_rM t q w - 1)) from (cl_to_v hKq (by decide) (of_decide_eq_true q29))) ?_
            refine am_ishl (pc := 47) C dX9_readSet_47 ?_
            refine am_ior (pc := 48) C dX9_readSet_48 ?_
            refine am_putI (pc := 49) C dX9_readSet_49 f9_102 bn_130 sh_130 rfl rfl ?_
            refine am_hp (show am_up gk 130 3 (x ||| ((nI 1) <<< ((nI (rf_rM t q w - 1)) &&& 31))) = am_row gk 130 (upd (gk 130) 3 (x ||| ((nI 1) <<< ((nI (rf_rM t q w - 1)) &&& 31)))) from am_up_rw _ _ _ _) ?_
            refine am_aload_n (pc := 52) C dX9_readSet_52 rfl ?_
            refine am_getR (pc := 53) (j := 1) C dX9_readSet_53 f9_9 bn_130 sh_130 (rf_130_0 hR) ?_
            refine am_callVvr (Y := mX8_advance) (pc := 56) (st := []) (As := []) (PP := fun c9 => cl_to (c9) t (rf_oNum t q) ∧ cl_fr ((am_row gk 130 (upd (gk 130) 3 (x ||| ((nI 1) <<< ((nI (rf_rM t q w - 1)) &&& 31)))))) c9 1 1) C dX9_readSet_56 k9_87 v_X8_advance rfl rfl bn_1 sh_1 ⟨by decide, rfl⟩ (by decide) (Nat.zero_le _) (Nat.zero_le _) (Nat.le_of_ble_eq_true rfl) (c_X8_adv_n (h := (am_row gk 130 (upd (gk 130) 3 (x ||| ((nI 1) <<< ((nI (rf_rM t q w - 1)) &&& 31)))))) hR t q (show cl_to ((am_row gk 130 (upd (gk 130) 3 (x ||| ((nI 1) <<< ((nI (rf_rM t q w - 1)) &&& 31)))))) t q from (cl_to_h (am_row_ne _ _ _ (by decide)) (am_row_ne _ _ _ (by decide)) hKq)) (show rf_To q from hTq) 0 (nI (rf_M w) - nI 1) (show 0 < 1000 from (by decide)) (show rf_rNum t q 0 (nI (rf_M w) - nI 1) ≠ 0 from (of_decide_eq_true q29))) (fun g56_1 hg56_1 => ?_)
            obtain ⟨K56, F56⟩ := hg56_1
            refine am_iincN (pc := 59) (ls' := [(0, .ref 130), (1, .int (nI (n + 1)))]) C dX9_readSet_59 rfl (am_up1 _) (by decide) rfl ?_
            refine am_goto (pc := 62) (tgt := 7) C dX9_readSet_62 (by decide) ?_
            exact ih7 g56_1 (n + 1) (rf_oBl t (rf_oNum t q)) (x ||| rf_bit (rf_rM t q w - 1)) (by omega) hTb.1 (cl_to_eq K56 rf_e_bl (rf_SB_bl hTn.1)) (by rw [F56 130 (by omega), am_row_at, rf_upd_eq]; rfl) (fun i h9 => (F56 i (by omega)).trans ((am_row_ne _ _ _ (by omega)).trans (hFk i h9))) (by have a9 := rf_num_s hTq (show rf_rNum t q 0 (nI (rf_M w) - nI 1) ≠ 0 from of_decide_eq_true q29); have b9 := hTb.2.1; omega) (am_lo_or hxl (am_lo_bit (by have := rf_rM_le (t := t) (o := q) hM9; have := of_decide_eq_true q29; omega) (by omega))) (hms.trans (cl_mr_go hTn.1 (cl_kd_fig.mp q22) (of_decide_eq_true q29) (by omega)))
          · skip
            refine am_iconstN (pc := 32) (k := 0) C dX9_readSet_32 ?_
            have E9 : rf_mt t o w = (-1, rf_oNum t q) := hms.trans (cl_mr_bad (Or.inr (cl_kd_fig.mp q22)) (Classical.not_not.mp (of_decide_eq_false q29)) (by omega))
            exact am_iretbr T dX9_readSet_33 rfl (Nat.le_refl _) (Nat.le_refl _) (by rw [E9]; rfl) rfl (by rw [E9]; exact ⟨fun _ => (cl_to_b hKq).trans (congrArg nI (rf_b_num hTq).symm), fun z => absurd (show (-1 : Int32) < 0 by decide) z, (fun i h9 => hFk i (by omega))⟩)
  exact L7 400 (am_row h 130 (upd (h 130) 3 (nI 0))) 0 o (nI 0) (by omega) hT (cl_to_h (am_row_ne _ _ _ (by decide)) (am_row_ne _ _ _ (by decide)) K) (by rw [am_row_at]; exact rf_upd_eq) (fun i h9 => am_row_ne _ _ _ (by omega)) (Nat.zero_le _) (am_lo_0 _) rfl

