set_option maxHeartbeats 400000 in
set_option maxRecDepth 100000 in
theorem c_X12_thrown {ad : Nat → Nat} {r : am_R} (hR : am_rs r) {h : am_H}    : am_CM mX12_thrown 0 0 0 [.ref 322] (am_VV ad) r h (am_po (some (.int ((h 322) 0))) r h) := by
  refine am_CM.of (by decide +kernel) (Nat.le_of_ble_eq_true rfl) (fun X C T => ?_)
  show am_G X (am_VV ad) (0, 0) 0 [(0, .ref 322)] [] r h
  refine am_aload_n (pc := 0) C dX12_thrown_0 rfl ?_
  refine am_getI (pc := 1) C dX12_thrown_1 f12_3 bn_322 sh_322 ?_
  exact am_ireti T dX12_thrown_4 rfl (Nat.le_refl _) (Nat.le_refl _) rfl rfl rfl

set_option maxHeartbeats 400000 in
set_option maxRecDepth 100000 in
theorem c_X12_in {ad : Nat → Nat} {r : am_R} (hR : am_rs r) {h : am_H} (v : Int32) (low : Int32) (high : Int32)   : am_CM mX12_in 0 0 0 [.int v, .int low, .int high] (am_VV ad) r h (am_po (some (.int (am_b (rf_in v low high)))) r h) := by
  refine am_CM.of (by decide +kernel) (Nat.le_of_ble_eq_true rfl) (fun X C T => ?_)
  show am_G X (am_VV ad) (0, 0) 0 [(0, .int v), (1, .int low), (2, .int high)] [] r h
  refine am_iload_n (pc := 0) C dX12_in_0 rfl ?_
  refine am_iload_n (pc := 1) C dX12_in_1 rfl ?_
  refine am_icmp_lt (pc := 2) (tgt := 14) C dX12_in_2 (by decide) (fun q2 => ?_) (fun q2 => ?_)
  · skip
    refine am_iconstN (pc := 14) (k := 0) C dX12_in_14 ?_
    exact am_iretb T dX12_in_15 rfl (Nat.le_refl _) (Nat.le_refl _) (by first | (rw [rf_in_lt q2]; rfl) | (rw [rf_in_gt q7]; rfl) | (rw [rf_in_ok q2 q7]; rfl)) rfl rfl
  · skip
    refine am_iload_n (pc := 5) C dX12_in_5 rfl ?_
    refine am_iload_n (pc := 6) C dX12_in_6 rfl ?_
    refine am_icmp_gt (pc := 7) (tgt := 14) C dX12_in_7 (by decide) (fun q7 => ?_) (fun q7 => ?_)
    · skip
      refine am_iconstN (pc := 14) (k := 0) C dX12_in_14 ?_
      exact am_iretb T dX12_in_15 rfl (Nat.le_refl _) (Nat.le_refl _) (by first | (rw [rf_in_lt q2]; rfl) | (rw [rf_in_gt q7]; rfl) | (rw [rf_in_ok q2 q7]; rfl)) rfl rfl
    · skip
      refine am_iconstN (pc := 10) (k := 1) C dX12_in_10 ?_
      refine am_goto (pc := 11) (tgt := 15) C dX12_in_11 (by decide) ?_
      exact am_iretb T dX12_in_15 rfl (Nat.le_refl _) (Nat.le_refl _) (by first | (rw [rf_in_lt q2]; rfl) | (rw [rf_in_gt q7]; rfl) | (rw [rf_in_ok q2 q7]; rfl)) rfl rfl

set_option maxHeartbeats 400000 in
set_option maxRecDepth 100000 in
theorem c_X12_has {ad : Nat → Nat} {r : am_R} (hR : am_rs r) {h : am_H} (set : Int32) (k : Nat) (hk : k < 32)  : am_CM mX12_has 0 0 0 [.int set, .int (nI k)] (am_VV ad) r h (am_po (some (.int (am_b (am_bt set k)))) r h) := by
  refine am_CM.of (by decide +kernel) (Nat.le_of_ble_eq_true rfl) (fun X C T => ?_)
  show am_G X (am_VV ad) (0, 0) 0 [(0, .int set), (1, .int (nI k))] [] r h
  refine am_iload_n (pc := 0) C dX12_has_0 rfl ?_
  refine am_iload_n (pc := 1) C dX12_has_1 rfl ?_
  refine am_ishr (pc := 2) C dX12_has_2 ?_
  refine am_iconstN (pc := 3) (k := 1) C dX12_has_3 ?_
  refine am_iand (pc := 4) C dX12_has_4 ?_
  refine am_iconstN (pc := 5) (k := 1) C dX12_has_5 ?_
  refine am_icmp_ne (pc := 6) (tgt := 13) C dX12_has_6 (by decide) (fun q6 => ?_) (fun q6 => ?_)
  · skip
    rw [am_has1 set hk] at q6
    refine am_iconstN (pc := 13) (k := 0) C dX12_has_13 ?_
    exact am_iretb T dX12_has_14 rfl (Nat.le_refl _) (Nat.le_refl _) (by simp [am_b, nI, *]) rfl rfl
  · skip
    rw [am_has1 set hk] at q6
    refine am_iconstN (pc := 9) (k := 1) C dX12_has_9 ?_
    refine am_goto (pc := 10) (tgt := 14) C dX12_has_10 (by decide) ?_
    exact am_iretb T dX12_has_14 rfl (Nat.le_refl _) (Nat.le_refl _) (by simp [am_b, nI, *]) rfl rfl

set_option maxHeartbeats 400000 in
set_option maxRecDepth 100000 in
theorem c_X12_throwsIf {ad : Nat → Nat} {r : am_R} (hR : am_rs r) {h : am_H} (is : Bool) (cd : Int32)   : am_CM mX12_throwsIf 0 0 0 [.ref 322, .int (am_b is), .int cd] (am_VV ad) r h (am_po (some (.int (am_b is))) r (am_row h 322 (bif is then upd (h 322) 0 cd else (h 322)))) := by
  refine am_CM.of (by decide +kernel) (Nat.le_of_ble_eq_true rfl) (fun X C T => ?_)
  show am_G X (am_VV ad) (0, 0) 0 [(0, .ref 322), (1, .int (am_b is)), (2, .int cd)] [] r h
  refine am_iload_n (pc := 0) C dX12_throwsIf_0 rfl ?_
  refine am_if_eqB (pc := 1) (tgt := 9) C dX12_throwsIf_1 (by decide) (fun q1 => ?_) (fun q1 => ?_)
  · skip
    refine am_iload_n (pc := 9) C dX12_throwsIf_9 rfl ?_
    exact am_iretb T dX12_throwsIf_10 rfl (Nat.le_refl _) (Nat.le_refl _) rfl rfl (by rw [q1]; first | rfl | exact (am_row_id _ _).symm)
  · skip
    refine am_aload_n (pc := 4) C dX12_throwsIf_4 rfl ?_
    refine am_iload_n (pc := 5) C dX12_throwsIf_5 rfl ?_
    refine am_putI (pc := 6) C dX12_throwsIf_6 f12_3 bn_322 sh_322 rfl rfl ?_
    refine am_hp (show am_up h 322 0 cd = am_row h 322 (upd (h 322) 0 cd) from am_up_rw _ _ _ _) ?_
    refine am_iload_n (pc := 9) C dX12_throwsIf_9 rfl ?_
    exact am_iretb T dX12_throwsIf_10 rfl (Nat.le_refl _) (Nat.le_refl _) rfl rfl (by rw [q1]; first | rfl | exact (am_row_id _ _).symm)

set_option maxHeartbeats 400000 in
set_option maxRecDepth 100000 in
theorem c_X12_memories {ad : Nat → Nat} {r : am_R} (hR : am_rs r) {h : am_H}  (hC : rf_Cn (h 323))  : am_CM mX12_memories 0 0 0 [.ref 322] (am_VV ad) r h (am_po (some (.int (nI (rf_M (h 323))))) r h) := by
  refine am_CM.of (by decide +kernel) (Nat.le_of_ble_eq_true rfl) (fun X C T => ?_)
  show am_G X (am_VV ad) (0, 0) 0 [(0, .ref 322)] [] r h
  refine am_aload_n (pc := 0) C dX12_memories_0 rfl ?_
  refine am_getR (pc := 1) (j := 323) C dX12_memories_1 f12_13 bn_322 sh_322 (rf_322_1 hR) ?_
  refine am_iconstN (pc := 4) (k := 0) C dX12_memories_4 ?_
  refine am_iaload (pc := 5) C dX12_memories_5 bn_323 sh_323 (vp_in_nI (by omega) (by decide)) ?_
  refine am_top (show (h 323) (nI 0).toNatClampNeg = (h 323) 0 from by rw [nI_clamp (by omega)]) ?_
  exact am_ireti T dX12_memories_6 rfl (Nat.le_refl _) (Nat.le_refl _) hC.1.1 rfl rfl

set_option maxHeartbeats 400000 in
set_option maxRecDepth 100000 in
theorem c_X12_soldiers {ad : Nat → Nat} {r : am_R} (hR : am_rs r) {h : am_H}  (hC : rf_Cn (h 323))  : am_CM mX12_soldiers 0 0 0 [.ref 322] (am_VV ad) r h (am_po (some (.int (nI (rf_S (h 323))))) r h) := by
  refine am_CM.of (by decide +kernel) (Nat.le_of_ble_eq_true rfl) (fun X C T => ?_)
  show am_G X (am_VV ad) (0, 0) 0 [(0, .ref 322)] [] r h
  refine am_aload_n (pc := 0) C dX12_soldiers_0 rfl ?_
  refine am_getR (pc := 1) (j := 323) C dX12_soldiers_1 f12_13 bn_322 sh_322 (rf_322_1 hR) ?_
  refine am_iconstN (pc := 4) (k := 1) C dX12_soldiers_4 ?_
  refine am_iaload (pc := 5) C dX12_soldiers_5 bn_323 sh_323 (vp_in_nI (by omega) (by decide)) ?_
  refine am_top (show (h 323) (nI 1).toNatClampNeg = (h 323) 1 from by rw [nI_clamp (by omega)]) ?_
  exact am_ireti T dX12_soldiers_6 rfl (Nat.le_refl _) (Nat.le_refl _) hC.2.1.1 rfl rfl

set_option maxHeartbeats 400000 in
set_option maxRecDepth 100000 in
theorem c_X12_orders {ad : Nat → Nat} {r : am_R} (hR : am_rs r) {h : am_H}  (hC : rf_Cn (h 323))  : am_CM mX12_orders 0 0 0 [.ref 322] (am_VV ad) r h (am_po (some (.int (nI (rf_O (h 323))))) r h) := by
  refine am_CM.of (by decide +kernel) (Nat.le_of_ble_eq_true rfl) (fun X C T => ?_)
  show am_G X (am_VV ad) (0, 0) 0 [(0, .ref 322)] [] r h
  refine am_aload_n (pc := 0) C dX12_orders_0 rfl ?_
  refine am_getR (pc := 1) (j := 323) C dX12_orders_1 f12_13 bn_322 sh_322 (rf_322_1 hR) ?_
  refine am_iconstN (pc := 4) (k := 2) C dX12_orders_4 ?_
  refine am_iaload (pc := 5) C dX12_orders_5 bn_323 sh_323 (vp_in_nI (by omega) (by decide)) ?_
  refine am_top (show (h 323) (nI 2).toNatClampNeg = (h 323) 2 from by rw [nI_clamp (by omega)]) ?_
  exact am_ireti T dX12_orders_6 rfl (Nat.le_refl _) (Nat.le_refl _) hC.2.2.1 rfl rfl

set_option maxHeartbeats 400000 in
set_option maxRecDepth 100000 in
theorem c_X12_of {ad : Nat → Nat} {r : am_R} (hR : am_rs r) {h : am_H} (s : Nat) (k : Nat) (hs : s < 11) (hk : k < 23)  : am_CM mX12_of 0 0 0 [.ref 322, .int (nI s), .int (nI k)] (am_VV ad) r h (am_po (some (.int (rf_of (h 323) s k))) r h) := by
  refine am_CM.of (by decide +kernel) (Nat.le_of_ble_eq_true rfl) (fun X C T => ?_)
  show am_G X (am_VV ad) (0, 0) 0 [(0, .ref 322), (1, .int (nI s)), (2, .int (nI k))] [] r h
  refine am_aload_n (pc := 0) C dX12_of_0 rfl ?_
  refine am_getR (pc := 1) (j := 323) C dX12_of_1 f12_13 bn_322 sh_322 (rf_322_1 hR) ?_
  refine am_bipush (pc := 4) (v := nI 61) C dX12_of_4 (by decide) ?_
  refine am_bipush (pc := 6) (v := nI 23) C dX12_of_6 (by decide) ?_
  refine am_iload_n (pc := 8) C dX12_of_8 rfl ?_
  refine am_imulN (pc := 9) C dX12_of_9 ?_
  refine am_iaddN (pc := 10) C dX12_of_10 ?_
  refine am_iload_n (pc := 11) C dX12_of_11 rfl ?_
  refine am_iaddN (pc := 12) C dX12_of_12 ?_
  refine am_iaload (pc := 13) C dX12_of_13 bn_323 sh_323 (vp_in_nI (by omega) (by decide)) ?_
  refine am_top (show (h 323) (nI ((61 + (23 * s)) + k)).toNatClampNeg = (h 323) ((61 + (23 * s)) + k) from by rw [nI_clamp (by omega)]) ?_
  exact am_ireti T dX12_of_14 rfl (Nat.le_refl _) (Nat.le_refl _) rfl rfl rfl

set_option maxHeartbeats 400000 in
set_option maxRecDepth 100000 in
theorem c_X12_ofMemory {ad : Nat → Nat} {r : am_R} (hR : am_rs r) {h : am_H} (m : Nat) (k : Nat) (hm : m < 16) (hk : k < 3)  : am_CM mX12_ofMemory 0 0 0 [.ref 322, .int (nI m), .int (nI k)] (am_VV ad) r h (am_po (some (.int (rf_mem (h 323) m k))) r h) := by
  refine am_CM.of (by decide +kernel) (Nat.le_of_ble_eq_true rfl) (fun X C T => ?_)
  show am_G X (am_VV ad) (0, 0) 0 [(0, .ref 322), (1, .int (nI m)), (2, .int (nI k))] [] r h
  refine am_aload_n (pc := 0) C dX12_ofMemory_0 rfl ?_
  refine am_getR (pc := 1) (j := 323) C dX12_ofMemory_1 f12_13 bn_322 sh_322 (rf_322_1 hR) ?_
  refine am_bipush (pc := 4) (v := nI 13) C dX12_ofMemory_4 (by decide) ?_
  refine am_iconstN (pc := 6) (k := 3) C dX12_ofMemory_6 ?_
  refine am_iload_n (pc := 7) C dX12_ofMemory_7 rfl ?_
  refine am_imulN (pc := 8) C dX12_ofMemory_8 ?_
  refine am_iaddN (pc := 9) C dX12_ofMemory_9 ?_
  refine am_iload_n (pc := 10) C dX12_ofMemory_10 rfl ?_
  refine am_iaddN (pc := 11) C dX12_ofMemory_11 ?_
  refine am_iaload (pc := 12) C dX12_ofMemory_12 bn_323 sh_323 (vp_in_nI (by omega) (by decide)) ?_
  refine am_top (show (h 323) (nI ((13 + (3 * m)) + k)).toNatClampNeg = (h 323) ((13 + (3 * m)) + k) from by rw [nI_clamp (by omega)]) ?_
  exact am_ireti T dX12_ofMemory_13 rfl (Nat.le_refl _) (Nat.le_refl _) rfl rfl rfl

set_option maxHeartbeats 400000 in
set_option maxRecDepth 100000 in
theorem c_X12_ofOrder {ad : Nat → Nat} {r : am_R} (hR : am_rs r) {h : am_H} (o : Nat) (k : Nat) (ho : o < 10) (hk : k < 2)  : am_CM mX12_ofOrder 0 0 0 [.ref 322, .int (nI o), .int (nI k)] (am_VV ad) r h (am_po (some (.int (rf_ord (h 323) o k))) r h) := by
  refine am_CM.of (by decide +kernel) (Nat.le_of_ble_eq_true rfl) (fun X C T => ?_)
  show am_G X (am_VV ad) (0, 0) 0 [(0, .ref 322), (1, .int (nI o)), (2, .int (nI k))] [] r h
  refine am_aload_n (pc := 0) C dX12_ofOrder_0 rfl ?_
  refine am_getR (pc := 1) (j := 323) C dX12_ofOrder_1 f12_13 bn_322 sh_322 (rf_322_1 hR) ?_
  refine am_sipush (pc := 4) (v := nI 291) C dX12_ofOrder_4 (by decide) ?_
  refine am_iconstN (pc := 7) (k := 2) C dX12_ofOrder_7 ?_
  refine am_iload_n (pc := 8) C dX12_ofOrder_8 rfl ?_
  refine am_imulN (pc := 9) C dX12_ofOrder_9 ?_
  refine am_iaddN (pc := 10) C dX12_ofOrder_10 ?_
  refine am_iload_n (pc := 11) C dX12_ofOrder_11 rfl ?_
  refine am_iaddN (pc := 12) C dX12_ofOrder_12 ?_
  refine am_iaload (pc := 13) C dX12_ofOrder_13 bn_323 sh_323 (vp_in_nI (by omega) (by decide)) ?_
  refine am_top (show (h 323) (nI ((291 + (2 * o)) + k)).toNatClampNeg = (h 323) ((291 + (2 * o)) + k) from by rw [nI_clamp (by omega)]) ?_
  exact am_ireti T dX12_ofOrder_14 rfl (Nat.le_refl _) (Nat.le_refl _) rfl rfl rfl

set_option maxHeartbeats 400000 in
set_option maxRecDepth 100000 in
theorem c_X12_ofField {ad : Nat → Nat} {r : am_R} (hR : am_rs r) {h : am_H} (f : Nat) (k : Nat) (hf : f < 40) (hk : k < 3)  : am_CM mX12_ofField 0 0 0 [.ref 322, .int (nI f), .int (nI k)] (am_VV ad) r h (am_po (some (.int (rf_fld (h 323) f k))) r h) := by
  refine am_CM.of (by decide +kernel) (Nat.le_of_ble_eq_true rfl) (fun X C T => ?_)
  show am_G X (am_VV ad) (0, 0) 0 [(0, .ref 322), (1, .int (nI f)), (2, .int (nI k))] [] r h
  refine am_aload_n (pc := 0) C dX12_ofField_0 rfl ?_
  refine am_getR (pc := 1) (j := 323) C dX12_ofField_1 f12_13 bn_322 sh_322 (rf_322_1 hR) ?_
  refine am_sipush (pc := 4) (v := nI 311) C dX12_ofField_4 (by decide) ?_
  refine am_iconstN (pc := 7) (k := 3) C dX12_ofField_7 ?_
  refine am_iload_n (pc := 8) C dX12_ofField_8 rfl ?_
  refine am_imulN (pc := 9) C dX12_ofField_9 ?_
  refine am_iaddN (pc := 10) C dX12_ofField_10 ?_
  refine am_iload_n (pc := 11) C dX12_ofField_11 rfl ?_
  refine am_iaddN (pc := 12) C dX12_ofField_12 ?_
  refine am_iaload (pc := 13) C dX12_ofField_13 bn_323 sh_323 (vp_in_nI (by omega) (by decide)) ?_
  refine am_top (show (h 323) (nI ((311 + (3 * f)) + k)).toNatClampNeg = (h 323) ((311 + (3 * f)) + k) from by rw [nI_clamp (by omega)]) ?_
  exact am_ireti T dX12_ofField_14 rfl (Nat.le_refl _) (Nat.le_refl _) rfl rfl rfl

set_option maxHeartbeats 400000 in
set_option maxRecDepth 100000 in
theorem c_X12_sets {ad : Nat → Nat} {r : am_R} (hR : am_rs r) {h : am_H} (s : Nat) (k : Nat) (v : Int32) (hs : s < 11) (hk : k < 23)  : am_CM mX12_sets 0 0 0 [.ref 322, .int (nI s), .int (nI k), .int v] (am_VV ad) r h (am_po none r (am_row h 323 (upd (h 323) (61 + 23 * s + k) v))) := by
  refine am_CM.of (by decide +kernel) (Nat.le_of_ble_eq_true rfl) (fun X C T => ?_)
  show am_G X (am_VV ad) (0, 0) 0 [(0, .ref 322), (1, .int (nI s)), (2, .int (nI k)), (3, .int v)] [] r h
  refine am_aload_n (pc := 0) C dX12_sets_0 rfl ?_
  refine am_getR (pc := 1) (j := 323) C dX12_sets_1 f12_13 bn_322 sh_322 (rf_322_1 hR) ?_
  refine am_bipush (pc := 4) (v := nI 61) C dX12_sets_4 (by decide) ?_
  refine am_bipush (pc := 6) (v := nI 23) C dX12_sets_6 (by decide) ?_
  refine am_iload_n (pc := 8) C dX12_sets_8 rfl ?_
  refine am_imulN (pc := 9) C dX12_sets_9 ?_
  refine am_iaddN (pc := 10) C dX12_sets_10 ?_
  refine am_iload_n (pc := 11) C dX12_sets_11 rfl ?_
  refine am_iaddN (pc := 12) C dX12_sets_12 ?_
  refine am_iload_n (pc := 13) C dX12_sets_13 rfl ?_
  refine am_iastore (pc := 14) C dX12_sets_14 bn_323 sh_323 (vp_in_nI (by omega) (by decide)) ?_
  refine am_hp (show am_up h 323 (nI ((61 + (23 * s)) + k)).toNatClampNeg v = am_row h 323 (upd (h 323) ((61 + (23 * s)) + k) v) from by rw [nI_clamp (by omega)]; exact am_up_rw _ _ _ _) ?_
  exact am_vretv T dX12_sets_15 rfl (Nat.le_refl _) (Nat.le_refl _) rfl rfl

set_option maxHeartbeats 400000 in
set_option maxRecDepth 100000 in
theorem c_X12_placeOf {ad : Nat → Nat} {r : am_R} (hR : am_rs r) {h : am_H} (s : Nat) (hs : s < 11) (hI : rf_Is (h 323) s)  : am_CM mX12_placeOf 1 0 0 [.ref 322, .int (nI s)] (am_VV ad) r h (am_po (some (.int (rf_pl (h 323) s))) r h) := by
  refine am_CM.of (by decide +kernel) (Nat.le_of_ble_eq_true rfl) (fun X C T => ?_)
  show am_G X (am_VV ad) (0, 0) 0 [(0, .ref 322), (1, .int (nI s))] [] r h
  have h1 := hI.2.2.1.2
  have h2 := hI.2.1.2
  simp only [rf_ofn] at h1
  have h3 : rf_ofn (h 323) s 1 < 7 := Nat.lt_trans h1 h2
  refine am_aload_n (pc := 0) C dX12_placeOf_0 rfl ?_
  refine am_iload_n (pc := 1) C dX12_placeOf_1 rfl ?_
  refine am_iconstN (pc := 2) (k := 3) C dX12_placeOf_2 ?_
  refine am_aload_n (pc := 3) C dX12_placeOf_3 rfl ?_
  refine am_iload_n (pc := 4) C dX12_placeOf_4 rfl ?_
  refine am_iconstN (pc := 5) (k := 1) C dX12_placeOf_5 ?_
  refine am_callVi (Y := mX12_of) (pc := 6) (st := [.int (nI 3), .int (nI s), .ref 322]) (As := [.int (nI s), .int (nI 1)]) (x := (rf_of (h 323) s 1)) (h2 := h) C dX12_placeOf_6 k12_63 v_X12_of rfl rfl bn_322 sh_322 ⟨by decide, rfl⟩ (by decide) (Nat.zero_le _) (Nat.zero_le _) (Nat.le_of_ble_eq_true rfl) (c_X12_of hR s 1 hs (show 1 < 23 from by omega)) ?_
  refine am_top (show (rf_of (h 323) s 1) = (nI (rf_ofn (h 323) s 1)) from hI.2.2.1.1) ?_
  refine am_iaddN (pc := 9) C dX12_placeOf_9 ?_
  refine am_callVi (Y := mX12_of) (pc := 10) (st := []) (As := [.int (nI s), .int (nI (3 + (rf_ofn (h 323) s 1)))]) (x := (rf_of (h 323) s (3 + (rf_ofn (h 323) s 1)))) (h2 := h) C dX12_placeOf_10 k12_63 v_X12_of rfl rfl bn_322 sh_322 ⟨by decide, rfl⟩ (by decide) (Nat.zero_le _) (Nat.zero_le _) (Nat.le_of_ble_eq_true rfl) (c_X12_of hR s (3 + (rf_ofn (h 323) s 1)) hs (show (3 + (rf_ofn (h 323) s 1)) < 23 from by omega)) ?_
  exact am_ireti T dX12_placeOf_13 rfl (Nat.le_refl _) (Nat.le_refl _) rfl rfl rfl

set_option maxHeartbeats 400000 in
set_option maxRecDepth 100000 in
theorem c_X12_noMemory {ad : Nat → Nat} {r : am_R} (hR : am_rs r) {h : am_H} (m : Int32) (hC : rf_Cn (h 323))  : am_CM mX12_noMemory 1 0 0 [.ref 322, .int m] (am_VV ad) r h (am_po (some (.int (am_b (!rf_okN m (rf_M (h 323)))))) r h) := by
  refine am_CM.of (by decide +kernel) (Nat.le_of_ble_eq_true rfl) (fun X C T => ?_)
  show am_G X (am_VV ad) (0, 0) 0 [(0, .ref 322), (1, .int m)] [] r h
  refine am_iload_n (pc := 0) C dX12_noMemory_0 rfl ?_
  refine am_iconstN (pc := 1) (k := 0) C dX12_noMemory_1 ?_
  refine am_aload_n (pc := 2) C dX12_noMemory_2 rfl ?_
  refine am_callVi (Y := mX12_memories) (pc := 3) (st := [.int (nI 0), .int m]) (As := []) (x := (nI (rf_M (h 323)))) (h2 := h) C dX12_noMemory_3 k12_67 v_X12_memories rfl rfl bn_322 sh_322 ⟨by decide, rfl⟩ (by decide) (Nat.zero_le _) (Nat.zero_le _) (Nat.le_of_ble_eq_true rfl) (c_X12_memories hR hC) ?_
  refine am_iconstN (pc := 6) (k := 1) C dX12_noMemory_6 ?_
  refine am_isub (pc := 7) C dX12_noMemory_7 ?_
  refine am_callSi (Y := mX12_in) (pc := 8) (st := []) (As := [.int m, .int (nI 0), .int ((nI (rf_M (h 323))) - (nI 1))]) (x := (am_b (rf_in m (nI 0) ((nI (rf_M (h 323))) - (nI 1))))) (h2 := h) C dX12_noMemory_8 k12_71 v_X12_in rfl rfl (by decide) (Nat.zero_le _) (Nat.zero_le _) (Nat.le_of_ble_eq_true rfl) (c_X12_in hR m (nI 0) ((nI (rf_M (h 323))) - (nI 1))) ?_
  refine am_if_neB (pc := 11) (tgt := 18) C dX12_noMemory_11 (by decide) (fun q11 => ?_) (fun q11 => ?_)
  · skip
    refine am_iconstN (pc := 18) (k := 0) C dX12_noMemory_18 ?_
    exact am_iretb T dX12_noMemory_19 rfl (Nat.le_refl _) (Nat.le_refl _) (by rw [show rf_okN m (rf_M (h 323)) = _ from q11]; rfl) rfl rfl
  · skip
    refine am_iconstN (pc := 14) (k := 1) C dX12_noMemory_14 ?_
    refine am_goto (pc := 15) (tgt := 19) C dX12_noMemory_15 (by decide) ?_
    exact am_iretb T dX12_noMemory_19 rfl (Nat.le_refl _) (Nat.le_refl _) (by rw [show rf_okN m (rf_M (h 323)) = _ from q11]; rfl) rfl rfl

set_option maxHeartbeats 400000 in
set_option maxRecDepth 100000 in
theorem c_X12_noSoldier {ad : Nat → Nat} {r : am_R} (hR : am_rs r) {h : am_H} (s : Int32) (hC : rf_Cn (h 323))  : am_CM mX12_noSoldier 1 0 0 [.ref 322, .int s] (am_VV ad) r h (am_po (some (.int (am_b (!rf_okN s (rf_S (h 323)))))) r h) := by
  refine am_CM.of (by decide +kernel) (Nat.le_of_ble_eq_true rfl) (fun X C T => ?_)
  show am_G X (am_VV ad) (0, 0) 0 [(0, .ref 322), (1, .int s)] [] r h
  refine am_iload_n (pc := 0) C dX12_noSoldier_0 rfl ?_
  refine am_iconstN (pc := 1) (k := 0) C dX12_noSoldier_1 ?_
  refine am_aload_n (pc := 2) C dX12_noSoldier_2 rfl ?_
  refine am_callVi (Y := mX12_soldiers) (pc := 3) (st := [.int (nI 0), .int s]) (As := []) (x := (nI (rf_S (h 323)))) (h2 := h) C dX12_noSoldier_3 k12_75 v_X12_soldiers rfl rfl bn_322 sh_322 ⟨by decide, rfl⟩ (by decide) (Nat.zero_le _) (Nat.zero_le _) (Nat.le_of_ble_eq_true rfl) (c_X12_soldiers hR hC) ?_
  refine am_iconstN (pc := 6) (k := 1) C dX12_noSoldier_6 ?_
  refine am_isub (pc := 7) C dX12_noSoldier_7 ?_
  refine am_callSi (Y := mX12_in) (pc := 8) (st := []) (As := [.int s, .int (nI 0), .int ((nI (rf_S (h 323))) - (nI 1))]) (x := (am_b (rf_in s (nI 0) ((nI (rf_S (h 323))) - (nI 1))))) (h2 := h) C dX12_noSoldier_8 k12_71 v_X12_in rfl rfl (by decide) (Nat.zero_le _) (Nat.zero_le _) (Nat.le_of_ble_eq_true rfl) (c_X12_in hR s (nI 0) ((nI (rf_S (h 323))) - (nI 1))) ?_
  refine am_if_neB (pc := 11) (tgt := 18) C dX12_noSoldier_11 (by decide) (fun q11 => ?_) (fun q11 => ?_)
  · skip
    refine am_iconstN (pc := 18) (k := 0) C dX12_noSoldier_18 ?_
    exact am_iretb T dX12_noSoldier_19 rfl (Nat.le_refl _) (Nat.le_refl _) (by rw [show rf_okN s (rf_S (h 323)) = _ from q11]; rfl) rfl rfl
  · skip
    refine am_iconstN (pc := 14) (k := 1) C dX12_noSoldier_14 ?_
    refine am_goto (pc := 15) (tgt := 19) C dX12_noSoldier_15 (by decide) ?_
    exact am_iretb T dX12_noSoldier_19 rfl (Nat.le_refl _) (Nat.le_refl _) (by rw [show rf_okN s (rf_S (h 323)) = _ from q11]; rfl) rfl rfl

set_option maxHeartbeats 400000 in
set_option maxRecDepth 100000 in
theorem c_X12_noSide {ad : Nat → Nat} {r : am_R} (hR : am_rs r) {h : am_H} (s : Int32)   : am_CM mX12_noSide 1 0 0 [.int s] (am_VV ad) r h (am_po (some (.int (am_b (!rf_in s (nI 0) (nI 1))))) r h) := by
  refine am_CM.of (by decide +kernel) (Nat.le_of_ble_eq_true rfl) (fun X C T => ?_)
  show am_G X (am_VV ad) (0, 0) 0 [(0, .int s)] [] r h
  refine am_iload_n (pc := 0) C dX12_noSide_0 rfl ?_
  refine am_iconstN (pc := 1) (k := 0) C dX12_noSide_1 ?_
  refine am_iconstN (pc := 2) (k := 1) C dX12_noSide_2 ?_
  refine am_callSi (Y := mX12_in) (pc := 3) (st := []) (As := [.int s, .int (nI 0), .int (nI 1)]) (x := (am_b (rf_in s (nI 0) (nI 1)))) (h2 := h) C dX12_noSide_3 k12_71 v_X12_in rfl rfl (by decide) (Nat.zero_le _) (Nat.zero_le _) (Nat.le_of_ble_eq_true rfl) (c_X12_in hR s (nI 0) (nI 1)) ?_
  refine am_if_neB (pc := 6) (tgt := 13) C dX12_noSide_6 (by decide) (fun q6 => ?_) (fun q6 => ?_)
  · skip
    refine am_iconstN (pc := 13) (k := 0) C dX12_noSide_13 ?_
    exact am_iretb T dX12_noSide_14 rfl (Nat.le_refl _) (Nat.le_refl _) (by rw [q6]; rfl) rfl rfl
  · skip
    refine am_iconstN (pc := 9) (k := 1) C dX12_noSide_9 ?_
    refine am_goto (pc := 10) (tgt := 14) C dX12_noSide_10 (by decide) ?_
    exact am_iretb T dX12_noSide_14 rfl (Nat.le_refl _) (Nat.le_refl _) (by rw [q6]; rfl) rfl rfl

