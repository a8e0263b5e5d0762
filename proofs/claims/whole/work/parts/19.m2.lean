set_option maxHeartbeats 400000 in
set_option maxRecDepth 100000 in
theorem c_J9_max_7cf53 {ad : Nat → Nat} {r : am_R} (hR : am_rs r) {h : am_H} (a : Int32) (b : Int32)   : am_CM mJ9_max_7cf53 0 0 0 [.int a, .int b] (am_VV ad) r h (am_po (some (.int (rf_max a b))) r h) := by
  refine am_CM.ofJ (by decide +kernel) (Nat.le_of_ble_eq_true rfl) (fun X C T => ?_)
  show am_G X (am_VV ad) (0, 0) 0 [(0, .int a), (1, .int b)] [] r h
  refine am_iload_n (pc := 0) C dJ9_max_7cf53_0 rfl ?_
  refine am_iload_n (pc := 1) C dJ9_max_7cf53_1 rfl ?_
  refine am_icmp_lt (pc := 2) (tgt := 9) C dJ9_max_7cf53_2 (by decide) (fun q2 => ?_) (fun q2 => ?_)
  · skip
    refine am_iload_n (pc := 9) C dJ9_max_7cf53_9 rfl ?_
    exact am_ireti T dJ9_max_7cf53_10 rfl (Nat.le_refl _) (Nat.le_refl _) (by simp only [rf_max]; simp [q2]) rfl rfl
  · skip
    refine am_iload_n (pc := 5) C dJ9_max_7cf53_5 rfl ?_
    refine am_goto (pc := 6) (tgt := 10) C dJ9_max_7cf53_6 (by decide) ?_
    exact am_ireti T dJ9_max_7cf53_10 rfl (Nat.le_refl _) (Nat.le_refl _) (by simp only [rf_max]; simp [q2]) rfl rfl

set_option maxHeartbeats 400000 in
set_option maxRecDepth 100000 in
theorem c_J9_min_7cf53 {ad : Nat → Nat} {r : am_R} (hR : am_rs r) {h : am_H} (a : Int32) (b : Int32)   : am_CM mJ9_min_7cf53 0 0 0 [.int a, .int b] (am_VV ad) r h (am_po (some (.int (rf_min a b))) r h) := by
  refine am_CM.ofJ (by decide +kernel) (Nat.le_of_ble_eq_true rfl) (fun X C T => ?_)
  show am_G X (am_VV ad) (0, 0) 0 [(0, .int a), (1, .int b)] [] r h
  refine am_iload_n (pc := 0) C dJ9_min_7cf53_0 rfl ?_
  refine am_iload_n (pc := 1) C dJ9_min_7cf53_1 rfl ?_
  refine am_icmp_gt (pc := 2) (tgt := 9) C dJ9_min_7cf53_2 (by decide) (fun q2 => ?_) (fun q2 => ?_)
  · skip
    refine am_iload_n (pc := 9) C dJ9_min_7cf53_9 rfl ?_
    exact am_ireti T dJ9_min_7cf53_10 rfl (Nat.le_refl _) (Nat.le_refl _) (by simp only [rf_min]; first | rw [if_neg (fun z => absurd q2 (Int32.not_lt.mpr z))] | rw [if_pos (Int32.not_lt.mp q2)]) rfl rfl
  · skip
    refine am_iload_n (pc := 5) C dJ9_min_7cf53_5 rfl ?_
    refine am_goto (pc := 6) (tgt := 10) C dJ9_min_7cf53_6 (by decide) ?_
    exact am_ireti T dJ9_min_7cf53_10 rfl (Nat.le_refl _) (Nat.le_refl _) (by simp only [rf_min]; first | rw [if_neg (fun z => absurd q2 (Int32.not_lt.mpr z))] | rw [if_pos (Int32.not_lt.mp q2)]) rfl rfl

set_option maxHeartbeats 400000 in
set_option maxRecDepth 100000 in
theorem c_J6_bitCount_0f7a4 {ad : Nat → Nat} {r : am_R} (hR : am_rs r) {h : am_H} (x : Int32)   : am_CM mJ6_bitCount_0f7a4 0 0 0 [.int x] (am_VV ad) r h (am_po (some (.int (rf_pc x))) r h) := by
  refine am_CM.ofJ (by decide +kernel) (Nat.le_of_ble_eq_true rfl) (fun X C T => ?_)
  show am_G X (am_VV ad) (0, 0) 0 [(0, .int x)] [] r h
  refine am_iload_n (pc := 0) C dJ6_bitCount_0f7a4_0 rfl ?_
  refine am_iload_n (pc := 1) C dJ6_bitCount_0f7a4_1 rfl ?_
  refine am_iconstN (pc := 2) (k := 1) C dJ6_bitCount_0f7a4_2 ?_
  refine am_iushr (pc := 3) C dJ6_bitCount_0f7a4_3 ?_
  refine am_ldcwi (pc := 4) (v := 1431655765) C dJ6_bitCount_0f7a4_4 (am_mem 655 (by decide +kernel) rfl) ?_
  refine am_iand (pc := 7) C dJ6_bitCount_0f7a4_7 ?_
  refine am_isub (pc := 8) C dJ6_bitCount_0f7a4_8 ?_
  refine am_istore_n (pc := 9) (ls' := [(0, .int (x - (((x.toUInt32 >>> ((nI 1).toUInt32 &&& Int32.toUInt32 31)).toInt32) &&& 1431655765)))]) C dJ6_bitCount_0f7a4_9 (by decide) rfl ?_
  refine am_iload_n (pc := 10) C dJ6_bitCount_0f7a4_10 rfl ?_
  refine am_ldcwi (pc := 11) (v := 858993459) C dJ6_bitCount_0f7a4_11 (am_mem 656 (by decide +kernel) rfl) ?_
  refine am_iand (pc := 14) C dJ6_bitCount_0f7a4_14 ?_
  refine am_iload_n (pc := 15) C dJ6_bitCount_0f7a4_15 rfl ?_
  refine am_iconstN (pc := 16) (k := 2) C dJ6_bitCount_0f7a4_16 ?_
  refine am_iushr (pc := 17) C dJ6_bitCount_0f7a4_17 ?_
  refine am_ldcwi (pc := 18) (v := 858993459) C dJ6_bitCount_0f7a4_18 (am_mem 656 (by decide +kernel) rfl) ?_
  refine am_iand (pc := 21) C dJ6_bitCount_0f7a4_21 ?_
  refine am_iadd (pc := 22) C dJ6_bitCount_0f7a4_22 ?_
  refine am_istore_n (pc := 23) (ls' := [(0, .int (((x - (((x.toUInt32 >>> ((nI 1).toUInt32 &&& Int32.toUInt32 31)).toInt32) &&& 1431655765)) &&& 858993459) + ((((x - (((x.toUInt32 >>> ((nI 1).toUInt32 &&& Int32.toUInt32 31)).toInt32) &&& 1431655765)).toUInt32 >>> ((nI 2).toUInt32 &&& Int32.toUInt32 31)).toInt32) &&& 858993459)))]) C dJ6_bitCount_0f7a4_23 (by decide) rfl ?_
  refine am_iload_n (pc := 24) C dJ6_bitCount_0f7a4_24 rfl ?_
  refine am_iload_n (pc := 25) C dJ6_bitCount_0f7a4_25 rfl ?_
  refine am_iconstN (pc := 26) (k := 4) C dJ6_bitCount_0f7a4_26 ?_
  refine am_iushr (pc := 27) C dJ6_bitCount_0f7a4_27 ?_
  refine am_iadd (pc := 28) C dJ6_bitCount_0f7a4_28 ?_
  refine am_ldcwi (pc := 29) (v := 252645135) C dJ6_bitCount_0f7a4_29 (am_mem 657 (by decide +kernel) rfl) ?_
  refine am_iand (pc := 32) C dJ6_bitCount_0f7a4_32 ?_
  refine am_istore_n (pc := 33) (ls' := [(0, .int (((((x - (((x.toUInt32 >>> ((nI 1).toUInt32 &&& Int32.toUInt32 31)).toInt32) &&& 1431655765)) &&& 858993459) + ((((x - (((x.toUInt32 >>> ((nI 1).toUInt32 &&& Int32.toUInt32 31)).toInt32) &&& 1431655765)).toUInt32 >>> ((nI 2).toUInt32 &&& Int32.toUInt32 31)).toInt32) &&& 858993459)) + (((((x - (((x.toUInt32 >>> ((nI 1).toUInt32 &&& Int32.toUInt32 31)).toInt32) &&& 1431655765)) &&& 858993459) + ((((x - (((x.toUInt32 >>> ((nI 1).toUInt32 &&& Int32.toUInt32 31)).toInt32) &&& 1431655765)).toUInt32 >>> ((nI 2).toUInt32 &&& Int32.toUInt32 31)).toInt32) &&& 858993459)).toUInt32 >>> ((nI 4).toUInt32 &&& Int32.toUInt32 31)).toInt32)) &&& 252645135))]) C dJ6_bitCount_0f7a4_33 (by decide) rfl ?_
  refine am_iload_n (pc := 34) C dJ6_bitCount_0f7a4_34 rfl ?_
  refine am_iload_n (pc := 35) C dJ6_bitCount_0f7a4_35 rfl ?_
  refine am_bipush (pc := 36) (v := nI 8) C dJ6_bitCount_0f7a4_36 (by decide) ?_
  refine am_iushr (pc := 38) C dJ6_bitCount_0f7a4_38 ?_
  refine am_iadd (pc := 39) C dJ6_bitCount_0f7a4_39 ?_
  refine am_istore_n (pc := 40) (ls' := [(0, .int ((((((x - (((x.toUInt32 >>> ((nI 1).toUInt32 &&& Int32.toUInt32 31)).toInt32) &&& 1431655765)) &&& 858993459) + ((((x - (((x.toUInt32 >>> ((nI 1).toUInt32 &&& Int32.toUInt32 31)).toInt32) &&& 1431655765)).toUInt32 >>> ((nI 2).toUInt32 &&& Int32.toUInt32 31)).toInt32) &&& 858993459)) + (((((x - (((x.toUInt32 >>> ((nI 1).toUInt32 &&& Int32.toUInt32 31)).toInt32) &&& 1431655765)) &&& 858993459) + ((((x - (((x.toUInt32 >>> ((nI 1).toUInt32 &&& Int32.toUInt32 31)).toInt32) &&& 1431655765)).toUInt32 >>> ((nI 2).toUInt32 &&& Int32.toUInt32 31)).toInt32) &&& 858993459)).toUInt32 >>> ((nI 4).toUInt32 &&& Int32.toUInt32 31)).toInt32)) &&& 252645135) + (((((((x - (((x.toUInt32 >>> ((nI 1).toUInt32 &&& Int32.toUInt32 31)).toInt32) &&& 1431655765)) &&& 858993459) + ((((x - (((x.toUInt32 >>> ((nI 1).toUInt32 &&& Int32.toUInt32 31)).toInt32) &&& 1431655765)).toUInt32 >>> ((nI 2).toUInt32 &&& Int32.toUInt32 31)).toInt32) &&& 858993459)) + (((((x - (((x.toUInt32 >>> ((nI 1).toUInt32 &&& Int32.toUInt32 31)).toInt32) &&& 1431655765)) &&& 858993459) + ((((x - (((x.toUInt32 >>> ((nI 1).toUInt32 &&& Int32.toUInt32 31)).toInt32) &&& 1431655765)).toUInt32 >>> ((nI 2).toUInt32 &&& Int32.toUInt32 31)).toInt32) &&& 858993459)).toUInt32 >>> ((nI 4).toUInt32 &&& Int32.toUInt32 31)).toInt32)) &&& 252645135).toUInt32 >>> ((nI 8).toUInt32 &&& Int32.toUInt32 31)).toInt32)))]) C dJ6_bitCount_0f7a4_40 (by decide) rfl ?_
  refine am_iload_n (pc := 41) C dJ6_bitCount_0f7a4_41 rfl ?_
  refine am_iload_n (pc := 42) C dJ6_bitCount_0f7a4_42 rfl ?_
  refine am_bipush (pc := 43) (v := nI 16) C dJ6_bitCount_0f7a4_43 (by decide) ?_
  refine am_iushr (pc := 45) C dJ6_bitCount_0f7a4_45 ?_
  refine am_iadd (pc := 46) C dJ6_bitCount_0f7a4_46 ?_
  refine am_istore_n (pc := 47) (ls' := [(0, .int (((((((x - (((x.toUInt32 >>> ((nI 1).toUInt32 &&& Int32.toUInt32 31)).toInt32) &&& 1431655765)) &&& 858993459) + ((((x - (((x.toUInt32 >>> ((nI 1).toUInt32 &&& Int32.toUInt32 31)).toInt32) &&& 1431655765)).toUInt32 >>> ((nI 2).toUInt32 &&& Int32.toUInt32 31)).toInt32) &&& 858993459)) + (((((x - (((x.toUInt32 >>> ((nI 1).toUInt32 &&& Int32.toUInt32 31)).toInt32) &&& 1431655765)) &&& 858993459) + ((((x - (((x.toUInt32 >>> ((nI 1).toUInt32 &&& Int32.toUInt32 31)).toInt32) &&& 1431655765)).toUInt32 >>> ((nI 2).toUInt32 &&& Int32.toUInt32 31)).toInt32) &&& 858993459)).toUInt32 >>> ((nI 4).toUInt32 &&& Int32.toUInt32 31)).toInt32)) &&& 252645135) + (((((((x - (((x.toUInt32 >>> ((nI 1).toUInt32 &&& Int32.toUInt32 31)).toInt32) &&& 1431655765)) &&& 858993459) + ((((x - (((x.toUInt32 >>> ((nI 1).toUInt32 &&& Int32.toUInt32 31)).toInt32) &&& 1431655765)).toUInt32 >>> ((nI 2).toUInt32 &&& Int32.toUInt32 31)).toInt32) &&& 858993459)) + (((((x - (((x.toUInt32 >>> ((nI 1).toUInt32 &&& Int32.toUInt32 31)).toInt32) &&& 1431655765)) &&& 858993459) + ((((x - (((x.toUInt32 >>> ((nI 1).toUInt32 &&& Int32.toUInt32 31)).toInt32) &&& 1431655765)).toUInt32 >>> ((nI 2).toUInt32 &&& Int32.toUInt32 31)).toInt32) &&& 858993459)).toUInt32 >>> ((nI 4).toUInt32 &&& Int32.toUInt32 31)).toInt32)) &&& 252645135).toUInt32 >>> ((nI 8).toUInt32 &&& Int32.toUInt32 31)).toInt32)) + ((((((((x - (((x.toUInt32 >>> ((nI 1).toUInt32 &&& Int32.toUInt32 31)).toInt32) &&& 1431655765)) &&& 858993459) + ((((x - (((x.toUInt32 >>> ((nI 1).toUInt32 &&& Int32.toUInt32 31)).toInt32) &&& 1431655765)).toUInt32 >>> ((nI 2).toUInt32 &&& Int32.toUInt32 31)).toInt32) &&& 858993459)) + (((((x - (((x.toUInt32 >>> ((nI 1).toUInt32 &&& Int32.toUInt32 31)).toInt32) &&& 1431655765)) &&& 858993459) + ((((x - (((x.toUInt32 >>> ((nI 1).toUInt32 &&& Int32.toUInt32 31)).toInt32) &&& 1431655765)).toUInt32 >>> ((nI 2).toUInt32 &&& Int32.toUInt32 31)).toInt32) &&& 858993459)).toUInt32 >>> ((nI 4).toUInt32 &&& Int32.toUInt32 31)).toInt32)) &&& 252645135) + (((((((x - (((x.toUInt32 >>> ((nI 1).toUInt32 &&& Int32.toUInt32 31)).toInt32) &&& 1431655765)) &&& 858993459) + ((((x - (((x.toUInt32 >>> ((nI 1).toUInt32 &&& Int32.toUInt32 31)).toInt32) &&& 1431655765)).toUInt32 >>> ((nI 2).toUInt32 &&& Int32.toUInt32 31)).toInt32) &&& 858993459)) + (((((x - (((x.toUInt32 >>> ((nI 1).toUInt32 &&& Int32.toUInt32 31)).toInt32) &&& 1431655765)) &&& 858993459) + ((((x - (((x.toUInt32 >>> ((nI 1).toUInt32 &&& Int32.toUInt32 31)).toInt32) &&& 1431655765)).toUInt32 >>> ((nI 2).toUInt32 &&& Int32.toUInt32 31)).toInt32) &&& 858993459)).toUInt32 >>> ((nI 4).toUInt32 &&& Int32.toUInt32 31)).toInt32)) &&& 252645135).toUInt32 >>> ((nI 8).toUInt32 &&& Int32.toUInt32 31)).toInt32)).toUInt32 >>> ((nI 16).toUInt32 &&& Int32.toUInt32 31)).toInt32)))]) C dJ6_bitCount_0f7a4_47 (by decide) rfl ?_
  refine am_iload_n (pc := 48) C dJ6_bitCount_0f7a4_48 rfl ?_
  refine am_bipush (pc := 49) (v := nI 63) C dJ6_bitCount_0f7a4_49 (by decide) ?_
  refine am_iand (pc := 51) C dJ6_bitCount_0f7a4_51 ?_
  exact am_ireti T dJ6_bitCount_0f7a4_52 rfl (Nat.le_refl _) (Nat.le_refl _) rfl rfl rfl

set_option maxHeartbeats 400000 in
set_option maxRecDepth 100000 in
theorem c_J9_floorMod_7cf53 {ad : Nat → Nat} {r : am_R} (hR : am_rs r) {h : am_H} (x : Int32) (y : Int32) (hy : ¬ y = 0)  : am_CM mJ9_floorMod_7cf53 0 0 0 [.int x, .int y] (am_VV ad) r h (am_po (some (.int (rf_fmod x y))) r h) := by
  refine am_CM.ofJ (by decide +kernel) (Nat.le_of_ble_eq_true rfl) (fun X C T => ?_)
  show am_G X (am_VV ad) (0, 0) 0 [(0, .int x), (1, .int y)] [] r h
  refine am_iload_n (pc := 0) C dJ9_floorMod_7cf53_0 rfl ?_
  refine am_iload_n (pc := 1) C dJ9_floorMod_7cf53_1 rfl ?_
  refine am_irem (pc := 2) C dJ9_floorMod_7cf53_2 hy ?_
  refine am_istore_n (pc := 3) (ls' := [(0, .int x), (1, .int y), (2, .int (x - x / y * y))]) C dJ9_floorMod_7cf53_3 (by decide) rfl ?_
  refine am_iload_n (pc := 4) C dJ9_floorMod_7cf53_4 rfl ?_
  refine am_iload_n (pc := 5) C dJ9_floorMod_7cf53_5 rfl ?_
  refine am_ixor (pc := 6) C dJ9_floorMod_7cf53_6 ?_
  refine am_if_ge (pc := 7) (tgt := 18) C dJ9_floorMod_7cf53_7 (by decide) (fun q7 => ?_) (fun q7 => ?_)
  · skip
    refine am_iload_n (pc := 18) C dJ9_floorMod_7cf53_18 rfl ?_
    exact am_ireti T dJ9_floorMod_7cf53_19 rfl (Nat.le_refl _) (Nat.le_refl _) (by simp only [rf_fmod]; simp [q7]) rfl rfl
  · skip
    refine am_iload_n (pc := 10) C dJ9_floorMod_7cf53_10 rfl ?_
    refine am_if_eq (pc := 11) (tgt := 18) C dJ9_floorMod_7cf53_11 (by decide) (fun q11 => ?_) (fun q11 => ?_)
    · skip
      refine am_iload_n (pc := 18) C dJ9_floorMod_7cf53_18 rfl ?_
      exact am_ireti T dJ9_floorMod_7cf53_19 rfl (Nat.le_refl _) (Nat.le_refl _) (by simp only [rf_fmod]; simp [q7, q11]) rfl rfl
    · skip
      refine am_iload_n (pc := 14) C dJ9_floorMod_7cf53_14 rfl ?_
      refine am_iload_n (pc := 15) C dJ9_floorMod_7cf53_15 rfl ?_
      refine am_iadd (pc := 16) C dJ9_floorMod_7cf53_16 ?_
      exact am_ireti T dJ9_floorMod_7cf53_17 rfl (Nat.le_refl _) (Nat.le_refl _) (by simp only [rf_fmod]; simp [q7, q11]) rfl rfl

set_option maxHeartbeats 400000 in
set_option maxRecDepth 100000 in
theorem c_X12_firstOf {ad : Nat → Nat} {r : am_R} (hR : am_rs r) {h : am_H} (s : Nat) (n : Nat) (hs : s < rf_S (h 323)) (hI : rf_Is (h 323) s) (hC : rf_Cn (h 323)) (hn : n < 1000)  : am_CM mX12_firstOf 1 0 0 [.ref 322, .int (nI s), .int (nI n)] (am_VV ad) r h (am_po (some (.int (rf_first (h 323) s n))) r h) := by
  refine am_CM.of (by decide +kernel) (Nat.le_of_ble_eq_true rfl) (fun X C T => ?_)
  show am_G X (am_VV ad) (0, 0) 0 [(0, .ref 322), (1, .int (nI s)), (2, .int (nI n))] [] r h
  have hk9 : rf_kn (h 323) s < 13 := hI.2.2.2.2.1.2
  have hS9 : rf_S (h 323) < 11 := hC.2.1.2
  refine am_iconstN (pc := 0) (k := 0) C dX12_firstOf_0 ?_
  refine am_istore_n (pc := 1) (ls' := [(0, .ref 322), (1, .int (nI s)), (2, .int (nI n)), (3, .int (nI 0))]) C dX12_firstOf_1 (by decide) rfl ?_
  refine am_iconstN (pc := 2) (k := 0) C dX12_firstOf_2 ?_
  refine am_istore (pc := 3) (ls' := [(0, .ref 322), (1, .int (nI s)), (2, .int (nI n)), (3, .int (nI 0)), (4, .int (nI 0))]) C dX12_firstOf_3 (by decide) rfl ?_
  have L5 : ∀ (j5 i5 : Nat), i5 + j5 = min (rf_kn (h 323) s) n → am_G X (am_VV ad) (0, 0) 5 [(0, .ref 322), (1, .int (nI s)), (2, .int (nI n)), (3, .int (rf_bits (rf_li (h 323) s) i5)), (4, .int (nI i5))] [] r h := by
    intro j5
    induction j5 with
    | zero =>
      intro i5 hi5 
      obtain rfl : i5 = min (rf_kn (h 323) s) n := by omega
      refine am_iload (pc := 5) C dX12_firstOf_5 rfl ?_
      refine am_aload_n (pc := 7) C dX12_firstOf_7 rfl ?_
      refine am_iload_n (pc := 8) C dX12_firstOf_8 rfl ?_
      refine am_bipush (pc := 9) (v := nI 9) C dX12_firstOf_9 (by decide) ?_
      refine am_callVi (Y := mX12_of) (pc := 11) (st := [.int (nI (min (rf_kn (h 323) s) n))]) (As := [.int (nI s), .int (nI 9)]) (x := (rf_of (h 323) s 9)) (h2 := h) C dX12_firstOf_11 k12_63 v_X12_of rfl rfl bn_322 sh_322 ⟨by decide, rfl⟩ (by decide) (Nat.zero_le _) (Nat.zero_le _) (Nat.le_of_ble_eq_true rfl) (c_X12_of hR s 9 (show s < 11 from by omega) (show 9 < 23 from by omega)) ?_
      refine am_top (show (rf_of (h 323) s 9) = (nI (rf_kn (h 323) s)) from hI.2.2.2.2.1.1) ?_
      refine am_icmp_geN (pc := 14) (tgt := 44) C dX12_firstOf_14 (by decide) (by omega) (by omega) (fun q14 => ?_) (fun q14 => ?_)
      · skip
        refine am_iload_n (pc := 44) C dX12_firstOf_44 rfl ?_
        exact am_ireti T dX12_firstOf_45 rfl (Nat.le_refl _) (Nat.le_refl _) rfl rfl rfl
      · skip
        refine am_iload (pc := 17) C dX12_firstOf_17 rfl ?_
        refine am_iload_n (pc := 19) C dX12_firstOf_19 rfl ?_
        refine am_icmp_geN (pc := 20) (tgt := 44) C dX12_firstOf_20 (by decide) (by omega) (by omega) (fun q20 => ?_) (fun q20 => ?_)
        · skip
          refine am_iload_n (pc := 44) C dX12_firstOf_44 rfl ?_
          exact am_ireti T dX12_firstOf_45 rfl (Nat.le_refl _) (Nat.le_refl _) rfl rfl rfl
        · skip
          exact absurd q20 (by omega)
    | succ j5 ih5 =>
      intro i5 hi5 
      have hl5 : i5 < min (rf_kn (h 323) s) n := by omega
      refine am_iload (pc := 5) C dX12_firstOf_5 rfl ?_
      refine am_aload_n (pc := 7) C dX12_firstOf_7 rfl ?_
      refine am_iload_n (pc := 8) C dX12_firstOf_8 rfl ?_
      refine am_bipush (pc := 9) (v := nI 9) C dX12_firstOf_9 (by decide) ?_
      refine am_callVi (Y := mX12_of) (pc := 11) (st := [.int (nI i5)]) (As := [.int (nI s), .int (nI 9)]) (x := (rf_of (h 323) s 9)) (h2 := h) C dX12_firstOf_11 k12_63 v_X12_of rfl rfl bn_322 sh_322 ⟨by decide, rfl⟩ (by decide) (Nat.zero_le _) (Nat.zero_le _) (Nat.le_of_ble_eq_true rfl) (c_X12_of hR s 9 (show s < 11 from by omega) (show 9 < 23 from by omega)) ?_
      refine am_top (show (rf_of (h 323) s 9) = (nI (rf_kn (h 323) s)) from hI.2.2.2.2.1.1) ?_
      refine am_icmp_geN (pc := 14) (tgt := 44) C dX12_firstOf_14 (by decide) (by omega) (by omega) (fun q14 => ?_) (fun q14 => ?_)
      · skip
        exact absurd q14 (by omega)
      · skip
        refine am_iload (pc := 17) C dX12_firstOf_17 rfl ?_
        refine am_iload_n (pc := 19) C dX12_firstOf_19 rfl ?_
        refine am_icmp_geN (pc := 20) (tgt := 44) C dX12_firstOf_20 (by decide) (by omega) (by omega) (fun q20 => ?_) (fun q20 => ?_)
        · skip
          exact absurd q20 (by omega)
        · skip
          refine am_iload_n (pc := 23) C dX12_firstOf_23 rfl ?_
          refine am_iconstN (pc := 24) (k := 1) C dX12_firstOf_24 ?_
          refine am_aload_n (pc := 25) C dX12_firstOf_25 rfl ?_
          refine am_iload_n (pc := 26) C dX12_firstOf_26 rfl ?_
          refine am_bipush (pc := 27) (v := nI 10) C dX12_firstOf_27 (by decide) ?_
          refine am_iload (pc := 29) C dX12_firstOf_29 rfl ?_
          refine am_iaddN (pc := 31) C dX12_firstOf_31 ?_
          refine am_callVi (Y := mX12_of) (pc := 32) (st := [.int (nI 1), .int (rf_bits (rf_li (h 323) s) i5)]) (As := [.int (nI s), .int (nI (10 + i5))]) (x := (rf_of (h 323) s (10 + i5))) (h2 := h) C dX12_firstOf_32 k12_63 v_X12_of rfl rfl bn_322 sh_322 ⟨by decide, rfl⟩ (by decide) (Nat.zero_le _) (Nat.zero_le _) (Nat.le_of_ble_eq_true rfl) (c_X12_of hR s (10 + i5) (show s < 11 from by omega) (show (10 + i5) < 23 from by omega)) ?_
          refine am_top (show (rf_of (h 323) s (10 + i5)) = (nI (rf_li (h 323) s i5)) from (hI.2.2.2.2.2.1 i5 (by omega)).1) ?_
          refine am_ishl (pc := 35) C dX12_firstOf_35 ?_
          refine am_ior (pc := 36) C dX12_firstOf_36 ?_
          refine am_istore_n (pc := 37) (ls' := [(0, .ref 322), (1, .int (nI s)), (2, .int (nI n)), (3, .int ((rf_bits (rf_li (h 323) s) i5) ||| ((nI 1) <<< ((nI (rf_li (h 323) s i5)) &&& 31)))), (4, .int (nI i5))]) C dX12_firstOf_37 (by decide) rfl ?_
          refine am_iincN (pc := 38) (ls' := [(0, .ref 322), (1, .int (nI s)), (2, .int (nI n)), (3, .int ((rf_bits (rf_li (h 323) s) i5) ||| ((nI 1) <<< ((nI (rf_li (h 323) s i5)) &&& 31)))), (4, .int (nI (i5 + 1)))]) C dX12_firstOf_38 rfl (am_up1 _) (by decide) rfl ?_
          refine am_goto (pc := 41) (tgt := 5) C dX12_firstOf_41 (by decide) ?_
          refine am_lsv (ls' := [(0, .ref 322), (1, .int (nI s)), (2, .int (nI n)), (3, .int (rf_bits (rf_li (h 323) s) (i5 + 1))), (4, .int (nI (i5 + 1)))]) (by rw [show ((rf_bits (rf_li (h 323) s) i5) ||| ((nI 1) <<< ((nI (rf_li (h 323) s i5)) &&& 31))) = (rf_bits (rf_li (h 323) s) (i5 + 1)) from rfl]) ?_
          exact ih5 (i5 + 1) (by omega) 
  exact L5 (min (rf_kn (h 323) s) n) 0 (by omega) 

set_option maxHeartbeats 400000 in
set_option maxRecDepth 100000 in
theorem c_X12_knownOf {ad : Nat → Nat} {r : am_R} (hR : am_rs r) {h : am_H} (s : Nat) (hs : s < rf_S (h 323)) (hI : rf_Is (h 323) s) (hC : rf_Cn (h 323))  : am_CM mX12_knownOf 2 0 0 [.ref 322, .int (nI s)] (am_VV ad) r h (am_po (some (.int (rf_known (h 323) s))) r h) := by
  refine am_CM.of (by decide +kernel) (Nat.le_of_ble_eq_true rfl) (fun X C T => ?_)
  show am_G X (am_VV ad) (0, 0) 0 [(0, .ref 322), (1, .int (nI s))] [] r h
  refine am_aload_n (pc := 0) C dX12_knownOf_0 rfl ?_
  refine am_iload_n (pc := 1) C dX12_knownOf_1 rfl ?_
  refine am_bipush (pc := 2) (v := nI 12) C dX12_knownOf_2 (by decide) ?_
  refine am_callVi (Y := mX12_firstOf) (pc := 4) (st := []) (As := [.int (nI s), .int (nI 12)]) (x := (rf_first (h 323) s 12)) (h2 := h) C dX12_knownOf_4 k12_78 v_X12_firstOf rfl rfl bn_322 sh_322 ⟨by decide, rfl⟩ (by decide) (Nat.zero_le _) (Nat.zero_le _) (Nat.le_of_ble_eq_true rfl) (c_X12_firstOf hR s 12 hs hI hC (show 12 < 1000 from by omega)) ?_
  exact am_ireti T dX12_knownOf_7 rfl (Nat.le_refl _) (Nat.le_refl _) rfl rfl rfl

set_option maxHeartbeats 400000 in
set_option maxRecDepth 100000 in
theorem c_X12_usable {ad : Nat → Nat} {r : am_R} (hR : am_rs r) {h : am_H} (known : Int32) (hC : rf_Cn (h 323))  : am_CM mX12_usable 1 0 0 [.ref 322, .int known] (am_VV ad) r h (am_po (some (.int (rf_usable (h 323) known))) r h) := by
  refine am_CM.of (by decide +kernel) (Nat.le_of_ble_eq_true rfl) (fun X C T => ?_)
  show am_G X (am_VV ad) (0, 0) 0 [(0, .ref 322), (1, .int known)] [] r h
  have hM9 : rf_M (h 323) < 17 := hC.1.2
  refine am_iconstN (pc := 0) (k := 0) C dX12_usable_0 ?_
  refine am_istore_n (pc := 1) (ls' := [(0, .ref 322), (1, .int known), (2, .int (nI 0))]) C dX12_usable_1 (by decide) rfl ?_
  refine am_iconstN (pc := 2) (k := 0) C dX12_usable_2 ?_
  refine am_istore_n (pc := 3) (ls' := [(0, .ref 322), (1, .int known), (2, .int (nI 0)), (3, .int (nI 0))]) C dX12_usable_3 (by decide) rfl ?_
  have L4 : ∀ (j4 i4 : Nat), i4 + j4 = rf_M (h 323) → am_G X (am_VV ad) (0, 0) 4 [(0, .ref 322), (1, .int known), (2, .int (rf_usa (h 323) known i4)), (3, .int (nI i4))] [] r h := by
    intro j4
    induction j4 with
    | zero =>
      intro i4 hi4 
      obtain rfl : i4 = rf_M (h 323) := by omega
      refine am_iload_n (pc := 4) C dX12_usable_4 rfl ?_
      refine am_aload_n (pc := 5) C dX12_usable_5 rfl ?_
      refine am_callVi (Y := mX12_memories) (pc := 6) (st := [.int (nI (rf_M (h 323)))]) (As := []) (x := (nI (rf_M (h 323)))) (h2 := h) C dX12_usable_6 k12_67 v_X12_memories rfl rfl bn_322 sh_322 ⟨by decide, rfl⟩ (by decide) (Nat.zero_le _) (Nat.zero_le _) (Nat.le_of_ble_eq_true rfl) (c_X12_memories hR hC) ?_
      refine am_icmp_geN (pc := 9) (tgt := 49) C dX12_usable_9 (by decide) (by omega) (by omega) (fun q9 => ?_) (fun q9 => ?_)
      · skip
        refine am_iload_n (pc := 49) C dX12_usable_49 rfl ?_
        exact am_ireti T dX12_usable_50 rfl (Nat.le_refl _) (Nat.le_refl _) rfl rfl rfl
      · skip
        exact absurd q9 (by omega)
    | succ j4 ih4 =>
      intro i4 hi4 
      have hl4 : i4 < rf_M (h 323) := by omega
      refine am_iload_n (pc := 4) C dX12_usable_4 rfl ?_
      refine am_aload_n (pc := 5) C dX12_usable_5 rfl ?_
      refine am_callVi (Y := mX12_memories) (pc := 6) (st := [.int (nI i4)]) (As := []) (x := (nI (rf_M (h 323)))) (h2 := h) C dX12_usable_6 k12_67 v_X12_memories rfl rfl bn_322 sh_322 ⟨by decide, rfl⟩ (by decide) (Nat.zero_le _) (Nat.zero_le _) (Nat.le_of_ble_eq_true rfl) (c_X12_memories hR hC) ?_
      refine am_icmp_geN (pc := 9) (tgt := 49) C dX12_usable_9 (by decide) (by omega) (by omega) (fun q9 => ?_) (fun q9 => ?_)
      · skip
        exact absurd q9 (by omega)
      · skip
        refine am_iload_n (pc := 12) C dX12_usable_12 rfl ?_
        refine am_iload_n (pc := 13) C dX12_usable_13 rfl ?_
        refine am_iload_n (pc := 14) C dX12_usable_14 rfl ?_
        refine am_callSi (Y := mX12_has) (pc := 15) (st := [.int (rf_usa (h 323) known i4)]) (As := [.int known, .int (nI i4)]) (x := (am_b (am_bt known i4))) (h2 := h) C dX12_usable_15 k12_81 v_X12_has rfl rfl (by decide) (Nat.zero_le _) (Nat.zero_le _) (Nat.le_of_ble_eq_true rfl) (c_X12_has hR known i4 (show i4 < 32 from by omega)) ?_
        refine am_if_eqB (pc := 18) (tgt := 40) C dX12_usable_18 (by decide) (fun q18 => ?_) (fun q18 => ?_)
        · skip
          refine am_iconstN (pc := 40) (k := 0) C dX12_usable_40 ?_
          refine am_ior (pc := 41) C dX12_usable_41 ?_
          refine am_istore_n (pc := 42) (ls' := [(0, .ref 322), (1, .int known), (2, .int ((rf_usa (h 323) known i4) ||| (nI 0))), (3, .int (nI i4))]) C dX12_usable_42 (by decide) rfl ?_
          refine am_iincN (pc := 43) (ls' := [(0, .ref 322), (1, .int known), (2, .int ((rf_usa (h 323) known i4) ||| (nI 0))), (3, .int (nI (i4 + 1)))]) C dX12_usable_43 rfl (am_up1 _) (by decide) rfl ?_
          refine am_goto (pc := 46) (tgt := 4) C dX12_usable_46 (by decide) ?_
          refine am_lsv (ls' := [(0, .ref 322), (1, .int known), (2, .int (rf_usa (h 323) known (i4 + 1))), (3, .int (nI (i4 + 1)))]) (by rw [show ((rf_usa (h 323) known i4) ||| (nI 0)) = (rf_usa (h 323) known (i4 + 1)) from (by first | exact rf_usa_t ⟨q18, q31⟩ | exact rf_usa_f (fun z => q31 z.2) | exact rf_usa_f (fun z => Bool.false_ne_true (q18.symm.trans z.1)))]) ?_
          exact ih4 (i4 + 1) (by omega) 
        · skip
          refine am_aload_n (pc := 21) C dX12_usable_21 rfl ?_
          refine am_iload_n (pc := 22) C dX12_usable_22 rfl ?_
          refine am_iconstN (pc := 23) (k := 1) C dX12_usable_23 ?_
          refine am_callVi (Y := mX12_ofMemory) (pc := 24) (st := [.int (rf_usa (h 323) known i4)]) (As := [.int (nI i4), .int (nI 1)]) (x := (rf_mem (h 323) i4 1)) (h2 := h) C dX12_usable_24 k12_85 v_X12_ofMemory rfl rfl bn_322 sh_322 ⟨by decide, rfl⟩ (by decide) (Nat.zero_le _) (Nat.zero_le _) (Nat.le_of_ble_eq_true rfl) (c_X12_ofMemory hR i4 1 (show i4 < 16 from by omega) (show 1 < 3 from by omega)) ?_
          refine am_iload_n (pc := 27) C dX12_usable_27 rfl ?_
          refine am_iconst (pc := 28) (v := -1) C dX12_usable_28 rfl ?_
          refine am_ixor (pc := 29) C dX12_usable_29 ?_
          refine am_iand (pc := 30) C dX12_usable_30 ?_
          refine am_if_ne (pc := 31) (tgt := 40) C dX12_usable_31 (by decide) (fun q31 => ?_) (fun q31 => ?_)
          · skip
            refine am_iconstN (pc := 40) (k := 0) C dX12_usable_40 ?_
            refine am_ior (pc := 41) C dX12_usable_41 ?_
            refine am_istore_n (pc := 42) (ls' := [(0, .ref 322), (1, .int known), (2, .int ((rf_usa (h 323) known i4) ||| (nI 0))), (3, .int (nI i4))]) C dX12_usable_42 (by decide) rfl ?_
            refine am_iincN (pc := 43) (ls' := [(0, .ref 322), (1, .int known), (2, .int ((rf_usa (h 323) known i4) ||| (nI 0))), (3, .int (nI (i4 + 1)))]) C dX12_usable_43 rfl (am_up1 _) (by decide) rfl ?_
            refine am_goto (pc := 46) (tgt := 4) C dX12_usable_46 (by decide) ?_
            refine am_lsv (ls' := [(0, .ref 322), (1, .int known), (2, .int (rf_usa (h 323) known (i4 + 1))), (3, .int (nI (i4 + 1)))]) (by rw [show ((rf_usa (h 323) known i4) ||| (nI 0)) = (rf_usa (h 323) known (i4 + 1)) from (by first | exact rf_usa_t ⟨q18, q31⟩ | exact rf_usa_f (fun z => q31 z.2) | exact rf_usa_f (fun z => Bool.false_ne_true (q18.symm.trans z.1)))]) ?_
            exact ih4 (i4 + 1) (by omega) 
          · skip
            refine am_iconstN (pc := 34) (k := 1) C dX12_usable_34 ?_
            refine am_iload_n (pc := 35) C dX12_usable_35 rfl ?_
            refine am_ishl (pc := 36) C dX12_usable_36 ?_
            refine am_goto (pc := 37) (tgt := 41) C dX12_usable_37 (by decide) ?_
            refine am_ior (pc := 41) C dX12_usable_41 ?_
            refine am_istore_n (pc := 42) (ls' := [(0, .ref 322), (1, .int known), (2, .int ((rf_usa (h 323) known i4) ||| ((nI 1) <<< ((nI i4) &&& 31)))), (3, .int (nI i4))]) C dX12_usable_42 (by decide) rfl ?_
            refine am_iincN (pc := 43) (ls' := [(0, .ref 322), (1, .int known), (2, .int ((rf_usa (h 323) known i4) ||| ((nI 1) <<< ((nI i4) &&& 31)))), (3, .int (nI (i4 + 1)))]) C dX12_usable_43 rfl (am_up1 _) (by decide) rfl ?_
            refine am_goto (pc := 46) (tgt := 4) C dX12_usable_46 (by decide) ?_
            refine am_lsv (ls' := [(0, .ref 322), (1, .int known), (2, .int (rf_usa (h 323) known (i4 + 1))), (3, .int (nI (i4 + 1)))]) (by rw [show ((rf_usa (h 323) known i4) ||| ((nI 1) <<< ((nI i4) &&& 31))) = (rf_usa (h 323) known (i4 + 1)) from (by first | exact rf_usa_t ⟨q18, q31⟩ | exact rf_usa_f (fun z => q31 z.2) | exact rf_usa_f (fun z => Bool.false_ne_true (q18.symm.trans z.1)))]) ?_
            exact ih4 (i4 + 1) (by omega) 
  exact L4 (rf_M (h 323)) 0 (by omega) 

set_option maxHeartbeats 400000 in
set_option maxRecDepth 100000 in
theorem c_X12_usableOf {ad : Nat → Nat} {r : am_R} (hR : am_rs r) {h : am_H} (s : Nat) (hs : s < rf_S (h 323)) (hI : rf_Is (h 323) s) (hC : rf_Cn (h 323))  : am_CM mX12_usableOf 3 0 0 [.ref 322, .int (nI s)] (am_VV ad) r h (am_po (some (.int (rf_use (h 323) s))) r h) := by
  refine am_CM.of (by decide +kernel) (Nat.le_of_ble_eq_true rfl) (fun X C T => ?_)
  show am_G X (am_VV ad) (0, 0) 0 [(0, .ref 322), (1, .int (nI s))] [] r h
  refine am_aload_n (pc := 0) C dX12_usableOf_0 rfl ?_
  refine am_aload_n (pc := 1) C dX12_usableOf_1 rfl ?_
  refine am_iload_n (pc := 2) C dX12_usableOf_2 rfl ?_
  refine am_callVi (Y := mX12_knownOf) (pc := 3) (st := [.ref 322]) (As := [.int (nI s)]) (x := (rf_known (h 323) s)) (h2 := h) C dX12_usableOf_3 k12_88 v_X12_knownOf rfl rfl bn_322 sh_322 ⟨by decide, rfl⟩ (by decide) (Nat.zero_le _) (Nat.zero_le _) (Nat.le_of_ble_eq_true rfl) (c_X12_knownOf hR s hs hI hC) ?_
  refine am_callVi (Y := mX12_usable) (pc := 6) (st := []) (As := [.int (rf_known (h 323) s)]) (x := (rf_usable (h 323) (rf_known (h 323) s))) (h2 := h) C dX12_usableOf_6 k12_92 v_X12_usable rfl rfl bn_322 sh_322 ⟨by decide, rfl⟩ (by decide) (Nat.zero_le _) (Nat.zero_le _) (Nat.le_of_ble_eq_true rfl) (c_X12_usable hR (rf_known (h 323) s) hC) ?_
  exact am_ireti T dX12_usableOf_9 rfl (Nat.le_refl _) (Nat.le_refl _) rfl rfl rfl

set_option maxHeartbeats 400000 in
set_option maxRecDepth 100000 in
theorem c_X12_sideIn {ad : Nat → Nat} {r : am_R} (hR : am_rs r) {h : am_H} (side : Int32) (place : Int32) (hV : rf_I (h 323))  : am_CM mX12_sideIn 2 0 0 [.ref 322, .int side, .int place] (am_VV ad) r h (am_po (some (.int (rf_sideIn (h 323) side place))) r h) := by
  refine am_CM.of (by decide +kernel) (Nat.le_of_ble_eq_true rfl) (fun X C T => ?_)
  show am_G X (am_VV ad) (0, 0) 0 [(0, .ref 322), (1, .int side), (2, .int place)] [] r h
  have hM9 : rf_M (h 323) < 17 := hV.1.1.2
  have hS9 : rf_S (h 323) < 11 := hV.1.2.1.2
  have hO9 : rf_O (h 323) < 11 := hV.1.2.2.2
  refine am_iconstN (pc := 0) (k := 0) C dX12_sideIn_0 ?_
  refine am_istore_n (pc := 1) (ls' := [(0, .ref 322), (1, .int side), (2, .int place), (3, .int (nI 0))]) C dX12_sideIn_1 (by decide) rfl ?_
  refine am_iconstN (pc := 2) (k := 0) C dX12_sideIn_2 ?_
  refine am_istore (pc := 3) (ls' := [(0, .ref 322), (1, .int side), (2, .int place), (3, .int (nI 0)), (4, .int (nI 0))]) C dX12_sideIn_3 (by decide) rfl ?_
  have L5 : ∀ (j5 i5 : Nat), i5 + j5 = rf_S (h 323) → am_G X (am_VV ad) (0, 0) 5 [(0, .ref 322), (1, .int side), (2, .int place), (3, .int (rf_set (fun s => decide (rf_of (h 323) s 0 = side) && decide (rf_pl (h 323) s = place)) i5)), (4, .int (nI i5))] [] r h := by
    intro j5
    induction j5 with
    | zero =>
      intro i5 hi5 
      obtain rfl : i5 = rf_S (h 323) := by omega
      refine am_iload (pc := 5) C dX12_sideIn_5 rfl ?_
      refine am_aload_n (pc := 7) C dX12_sideIn_7 rfl ?_
      refine am_callVi (Y := mX12_soldiers) (pc := 8) (st := [.int (nI (rf_S (h 323)))]) (As := []) (x := (nI (rf_S (h 323)))) (h2 := h) C dX12_sideIn_8 k12_75 v_X12_soldiers rfl rfl bn_322 sh_322 ⟨by decide, rfl⟩ (by decide) (Nat.zero_le _) (Nat.zero_le _) (Nat.le_of_ble_eq_true rfl) (c_X12_soldiers hR (show rf_Cn (h 323) from hV.1)) ?_
      refine am_icmp_geN (pc := 11) (tgt := 52) C dX12_sideIn_11 (by decide) (by omega) (by omega) (fun q11 => ?_) (fun q11 => ?_)
      · skip
        refine am_iload_n (pc := 52) C dX12_sideIn_52 rfl ?_
        exact am_ireti T dX12_sideIn_53 rfl (Nat.le_refl _) (Nat.le_refl _) rfl rfl rfl
      · skip
        exact absurd q11 (by omega)
    | succ j5 ih5 =>
      intro i5 hi5 
      have hl5 : i5 < rf_S (h 323) := by omega
      refine am_iload (pc := 5) C dX12_sideIn_5 rfl ?_
      refine am_aload_n (pc := 7) C dX12_sideIn_7 rfl ?_
      refine am_callVi (Y := mX12_soldiers) (pc := 8) (st := [.int (nI i5)]) (As := []) (x := (nI (rf_S (h 323)))) (h2 := h) C dX12_sideIn_8 k12_75 v_X12_soldiers rfl rfl bn_322 sh_322 ⟨by decide, rfl⟩ (by decide) (Nat.zero_le _) (Nat.zero_le _) (Nat.le_of_ble_eq_true rfl) (c_X12_soldiers hR (show rf_Cn (h 323) from hV.1)) ?_
      refine am_icmp_geN (pc := 11) (tgt := 52) C dX12_sideIn_11 (by decide) (by omega) (by omega) (fun q11 => ?_) (fun q11 => ?_)
      · skip
        exact absurd q11 (by omega)
      · skip
        refine am_iload_n (pc := 14) C dX12_sideIn_14 rfl ?_
        refine am_aload_n (pc := 15) C dX12_sideIn_15 rfl ?_
        refine am_iload (pc := 16) C dX12_sideIn_16 rfl ?_
        refine am_iconstN (pc := 18) (k := 0) C dX12_sideIn_18 ?_
        refine am_callVi (Y := mX12_of) (pc := 19) (st := [.int (rf_set (fun s => decide (rf_of (h 323) s 0 = side) && decide (rf_pl (h 323) s = place)) i5)]) (As := [.int (nI i5), .int (nI 0)]) (x := (rf_of (h 323) i5 0)) (h2 := h) C dX12_sideIn_19 k12_63 v_X12_of rfl rfl bn_322 sh_322 ⟨by decide, rfl⟩ (by decide) (Nat.zero_le _) (Nat.zero_le _) (Nat.le_of_ble_eq_true rfl) (c_X12_of hR i5 0 (show i5 < 11 from by omega) (show 0 < 23 from by omega)) ?_
        refine am_iload_n (pc := 22) C dX12_sideIn_22 rfl ?_
        refine am_icmp_ne (pc := 23) (tgt := 43) C dX12_sideIn_23 (by decide) (fun q23 => ?_) (fun q23 => ?_)
        · skip
          refine am_iconstN (pc := 43) (k := 0) C dX12_sideIn_43 ?_
          refine am_ior (pc := 44) C dX12_sideIn_44 ?_
          refine am_istore_n (pc := 45) (ls' := [(0, .ref 322), (1, .int side), (2, .int place), (3, .int ((rf_set (fun s => decide (rf_of (h 323) s 0 = side) && decide (rf_pl (h 323) s = place)) i5) ||| (nI 0))), (4, .int (nI i5))]) C dX12_sideIn_45 (by decide) rfl ?_
          refine am_iincN (pc := 46) (ls' := [(0, .ref 322), (1, .int side), (2, .int place), (3, .int ((rf_set (fun s => decide (rf_of (h 323) s 0 = side) && decide (rf_pl (h 323) s = place)) i5) ||| (nI 0))), (4, .int (nI (i5 + 1)))]) C dX12_sideIn_46 rfl (am_up1 _) (by decide) rfl ?_
          refine am_goto (pc := 49) (tgt := 5) C dX12_sideIn_49 (by decide) ?_
          refine am_lsv (ls' := [(0, .ref 322), (1, .int side), (2, .int place), (3, .int (rf_set (fun s => decide (rf_of (h 323) s 0 = side) && decide (rf_pl (h 323) s = place)) (i5 + 1))), (4, .int (nI (i5 + 1)))]) (by rw [show ((rf_set (fun s => decide (rf_of (h 323) s 0 = side) && decide (rf_pl (h 323) s = place)) i5) ||| (nI 0)) = (rf_set (fun s => decide (rf_of (h 323) s 0 = side) && decide (rf_pl (h 323) s = place)) (i5 + 1)) from (by first | exact rf_set_t (by simp [q11, q23]) | exact rf_set_f (by simp [q11, q23]))]) ?_
          exact ih5 (i5 + 1) (by omega) 
        · skip
          refine am_aload_n (pc := 26) C dX12_sideIn_26 rfl ?_
          refine am_iload (pc := 27) C dX12_sideIn_27 rfl ?_
          refine am_callVi (Y := mX12_placeOf) (pc := 29) (st := [.int (rf_set (fun s => decide (rf_of (h 323) s 0 = side) && decide (rf_pl (h 323) s = place)) i5)]) (As := [.int (nI i5)]) (x := (rf_pl (h 323) i5)) (h2 := h) C dX12_sideIn_29 k12_272 v_X12_placeOf rfl rfl bn_322 sh_322 ⟨by decide, rfl⟩ (by decide) (Nat.zero_le _) (Nat.zero_le _) (Nat.le_of_ble_eq_true rfl) (c_X12_placeOf hR i5 (show i5 < 11 from by omega) (show rf_Is (h 323) i5 from (hV.2.1 i5 (by omega)))) ?_
          refine am_iload_n (pc := 32) C dX12_sideIn_32 rfl ?_
          refine am_icmp_ne (pc := 33) (tgt := 43) C dX12_sideIn_33 (by decide) (fun q33 => ?_) (fun q33 => ?_)
          · skip
            refine am_iconstN (pc := 43) (k := 0) C dX12_sideIn_43 ?_
            refine am_ior (pc := 44) C dX12_sideIn_44 ?_
            refine am_istore_n (pc := 45) (ls' := [(0, .ref 322), (1, .int side), (2, .int place), (3, .int ((rf_set (fun s => decide (rf_of (h 323) s 0 = side) && decide (rf_pl (h 323) s = place)) i5) ||| (nI 0))), (4, .int (nI i5))]) C dX12_sideIn_45 (by decide) rfl ?_
            refine am_iincN (pc := 46) (ls' := [(0, .ref 322), (1, .int side), (2, .int place), (3, .int ((rf_set (fun s => decide (rf_of (h 323) s 0 = side) && decide (rf_pl (h 323) s = place)) i5) ||| (nI 0))), (4, .int (nI (i5 + 1)))]) C dX12_sideIn_46 rfl (am_up1 _) (by decide) rfl ?_
            refine am_goto (pc := 49) (tgt := 5) C dX12_sideIn_49 (by decide) ?_
            refine am_lsv (ls' := [(0, .ref 322), (1, .int side), (2, .int place), (3, .int (rf_set (fun s => decide (rf_of (h 323) s 0 = side) && decide (rf_pl (h 323) s = place)) (i5 + 1))), (4, .int (nI (i5 + 1)))]) (by rw [show ((rf_set (fun s => decide (rf_of (h 323) s 0 = side) && decide (rf_pl (h 323) s = place)) i5) ||| (nI 0)) = (rf_set (fun s => decide (rf_of (h 323) s 0 = side) && decide (rf_pl (h 323) s = place)) (i5 + 1)) from (by first | exact rf_set_t (by simp [q11, q23, q33]) | exact rf_set_f (by simp [q11, q23, q33]))]) ?_
            exact ih5 (i5 + 1) (by omega) 
          · skip
            refine am_iconstN (pc := 36) (k := 1) C dX12_sideIn_36 ?_
            refine am_iload (pc := 37) C dX12_sideIn_37 rfl ?_
            refine am_ishl (pc := 39) C dX12_sideIn_39 ?_
            refine am_goto (pc := 40) (tgt := 44) C dX12_sideIn_40 (by decide) ?_
            refine am_ior (pc := 44) C dX12_sideIn_44 ?_
            refine am_istore_n (pc := 45) (ls' := [(0, .ref 322), (1, .int side), (2, .int place), (3, .int ((rf_set (fun s => decide (rf_of (h 323) s 0 = side) && decide (rf_pl (h 323) s = place)) i5) ||| ((nI 1) <<< ((nI i5) &&& 31)))), (4, .int (nI i5))]) C dX12_sideIn_45 (by decide) rfl ?_
            refine am_iincN (pc := 46) (ls' := [(0, .ref 322), (1, .int side), (2, .int place), (3, .int ((rf_set (fun s => decide (rf_of (h 323) s 0 = side) && decide (rf_pl (h 323) s = place)) i5) ||| ((nI 1) <<< ((nI i5) &&& 31)))), (4, .int (nI (i5 + 1)))]) C dX12_sideIn_46 rfl (am_up1 _) (by decide) rfl ?_
            refine am_goto (pc := 49) (tgt := 5) C dX12_sideIn_49 (by decide) ?_
            refine am_lsv (ls' := [(0, .ref 322), (1, .int side), (2, .int place), (3, .int (rf_set (fun s => decide (rf_of (h 323) s 0 = side) && decide (rf_pl (h 323) s = place)) (i5 + 1))), (4, .int (nI (i5 + 1)))]) (by rw [show ((rf_set (fun s => decide (rf_of (h 323) s 0 = side) && decide (rf_pl (h 323) s = place)) i5) ||| ((nI 1) <<< ((nI i5) &&& 31))) = (rf_set (fun s => decide (rf_of (h 323) s 0 = side) && decide (rf_pl (h 323) s = place)) (i5 + 1)) from (by first | exact rf_set_t (by simp [q11, q23, q33]) | exact rf_set_f (by simp [q11, q23, q33]))]) ?_
            exact ih5 (i5 + 1) (by omega) 
  exact L5 (rf_S (h 323)) 0 (by omega) 

set_option maxHeartbeats 400000 in
set_option maxRecDepth 100000 in
theorem c_X12_bears {ad : Nat → Nat} {r : am_R} (hR : am_rs r) {h : am_H} (m : Nat) (hm : m < 16)  : am_CM mX12_bears 1 0 0 [.ref 322, .int (nI m)] (am_VV ad) r h (am_po (some (.int (rf_bears (h 323) m))) r h) := by
  refine am_CM.of (by decide +kernel) (Nat.le_of_ble_eq_true rfl) (fun X C T => ?_)
  show am_G X (am_VV ad) (0, 0) 0 [(0, .ref 322), (1, .int (nI m))] [] r h
  refine am_aload_n (pc := 0) C dX12_bears_0 rfl ?_
  refine am_iload_n (pc := 1) C dX12_bears_1 rfl ?_
  refine am_iconstN (pc := 2) (k := 1) C dX12_bears_2 ?_
  refine am_callVi (Y := mX12_ofMemory) (pc := 3) (st := []) (As := [.int (nI m), .int (nI 1)]) (x := (rf_mem (h 323) m 1)) (h2 := h) C dX12_bears_3 k12_85 v_X12_ofMemory rfl rfl bn_322 sh_322 ⟨by decide, rfl⟩ (by decide) (Nat.zero_le _) (Nat.zero_le _) (Nat.le_of_ble_eq_true rfl) (c_X12_ofMemory hR m 1 hm (show 1 < 3 from by omega)) ?_
  refine am_istore_n (pc := 6) (ls' := [(0, .ref 322), (1, .int (nI m)), (2, .int (rf_mem (h 323) m 1))]) C dX12_bears_6 (by decide) rfl ?_
  refine am_iload_n (pc := 7) C dX12_bears_7 rfl ?_
  refine am_iconstN (pc := 8) (k := 1) C dX12_bears_8 ?_
  refine am_isub (pc := 9) C dX12_bears_9 ?_
  refine am_istore_n (pc := 10) (ls' := [(0, .ref 322), (1, .int (nI m)), (2, .int (rf_mem (h 323) m 1)), (3, .int ((nI m) - (nI 1)))]) C dX12_bears_10 (by decide) rfl ?_
  have L11 : ∀ (j11 : Nat) (b : Int32) , j11 ≤ m → (hb : rf_bdn (h 323) j11 b = rf_bears (h 323) m) → am_G X (am_VV ad) (0, 0) 11 [(0, .ref 322), (1, .int (nI m)), (2, .int b), (3, .int (nI j11 - nI 1))] [] r h := by
    intro j11
    induction j11 with
    | zero =>
      intro b hj11 hb
      refine am_lsv (ls' := [(0, .ref 322), (1, .int (nI m)), (2, .int b), (3, .int (-1))]) rfl ?_
      refine am_iload_n (pc := 11) C dX12_bears_11 rfl ?_
      refine am_if_lt (pc := 12) (tgt := 42) C dX12_bears_12 (by decide) (fun q12 => ?_) (fun q12 => ?_)
      · skip
        refine am_iload_n (pc := 42) C dX12_bears_42 rfl ?_
        exact am_ireti T dX12_bears_43 rfl (Nat.le_refl _) (Nat.le_refl _) (by rw [← hb]; rfl) rfl rfl
      · skip
        exact absurd (by decide) q12
    | succ j11 ih11 =>
      intro b hj11 hb
      refine am_lsv (ls' := [(0, .ref 322), (1, .int (nI m)), (2, .int b), (3, .int (nI j11))]) (by rw [show nI (j11 + 1) - nI 1 = nI j11 from pk_sub (by omega)]) ?_
      refine am_iload_n (pc := 11) C dX12_bears_11 rfl ?_
      refine am_if_ltN (pc := 12) (tgt := 42) C dX12_bears_12 (by decide) (by omega) ?_
      refine am_iload_n (pc := 15) C dX12_bears_15 rfl ?_
      refine am_iload_n (pc := 16) C dX12_bears_16 rfl ?_
      refine am_iload_n (pc := 17) C dX12_bears_17 rfl ?_
      refine am_callSi (Y := mX12_has) (pc := 18) (st := [.int b]) (As := [.int b, .int (nI j11)]) (x := (am_b (am_bt b j11))) (h2 := h) C dX12_bears_18 k12_81 v_X12_has rfl rfl (by decide) (Nat.zero_le _) (Nat.zero_le _) (Nat.le_of_ble_eq_true rfl) (c_X12_has hR b j11 (show j11 < 32 from by omega)) ?_
      refine am_if_eqB (pc := 21) (tgt := 33) C dX12_bears_21 (by decide) (fun q21 => ?_) (fun q21 => ?_)
      · skip
        refine am_iconstN (pc := 33) (k := 0) C dX12_bears_33 ?_
        refine am_ior (pc := 34) C dX12_bears_34 ?_
        refine am_istore_n (pc := 35) (ls' := [(0, .ref 322), (1, .int (nI m)), (2, .int (b ||| (nI 0))), (3, .int (nI j11))]) C dX12_bears_35 (by decide) rfl ?_
        refine am_iinc (pc := 36) (ls' := [(0, .ref 322), (1, .int (nI m)), (2, .int (b ||| (nI 0))), (3, .int ((nI j11) - nI 1))]) C dX12_bears_36 rfl (am_dnI _) (by decide) rfl ?_
        refine am_goto (pc := 39) (tgt := 11) C dX12_bears_39 (by decide) ?_
        exact ih11 (b ||| (nI 0)) (by omega) (by rw [← hb, rf_bdn]; simp [q21])
      · skip
        refine am_aload_n (pc := 24) C dX12_bears_24 rfl ?_
        refine am_iload_n (pc := 25) C dX12_bears_25 rfl ?_
        refine am_iconstN (pc := 26) (k := 1) C dX12_bears_26 ?_
        refine am_callVi (Y := mX12_ofMemory) (pc := 27) (st := [.int b]) (As := [.int (nI j11), .int (nI 1)]) (x := (rf_mem (h 323) j11 1)) (h2 := h) C dX12_bears_27 k12_85 v_X12_ofMemory rfl rfl bn_322 sh_322 ⟨by decide, rfl⟩ (by decide) (Nat.zero_le _) (Nat.zero_le _) (Nat.le_of_ble_eq_true rfl) (c_X12_ofMemory hR j11 1 (show j11 < 16 from by omega) (show 1 < 3 from by omega)) ?_
        refine am_goto (pc := 30) (tgt := 34) C dX12_bears_30 (by decide) ?_
        refine am_ior (pc := 34) C dX12_bears_34 ?_
        refine am_istore_n (pc := 35) (ls' := [(0, .ref 322), (1, .int (nI m)), (2, .int (b ||| (rf_mem (h 323) j11 1))), (3, .int (nI j11))]) C dX12_bears_35 (by decide) rfl ?_
        refine am_iinc (pc := 36) (ls' := [(0, .ref 322), (1, .int (nI m)), (2, .int (b ||| (rf_mem (h 323) j11 1))), (3, .int ((nI j11) - nI 1))]) C dX12_bears_36 rfl (am_dnI _) (by decide) rfl ?_
        refine am_goto (pc := 39) (tgt := 11) C dX12_bears_39 (by decide) ?_
        exact ih11 (b ||| (rf_mem (h 323) j11 1)) (by omega) (by rw [← hb, rf_bdn]; simp [q21])
  exact L11 m (rf_mem (h 323) m 1) (Nat.le_refl _) rfl

set_option maxHeartbeats 400000 in
set_option maxRecDepth 100000 in
theorem c_X12_bearsAll {ad : Nat → Nat} {r : am_R} (hR : am_rs r) {h : am_H} (set : Int32) (hC : rf_Cn (h 323))  : am_CM mX12_bearsAll 2 0 0 [.ref 322, .int set] (am_VV ad) r h (am_po (some (.int (rf_bearsAll (h 323) set))) r h) := by
  refine am_CM.of (by decide +kernel) (Nat.le_of_ble_eq_true rfl) (fun X C T => ?_)
  show am_G X (am_VV ad) (0, 0) 0 [(0, .ref 322), (1, .int set)] [] r h
  have hM9 : rf_M (h 323) < 17 := hC.1.2
  refine am_iload_n (pc := 0) C dX12_bearsAll_0 rfl ?_
  refine am_istore_n (pc := 1) (ls' := [(0, .ref 322), (1, .int set), (2, .int set)]) C dX12_bearsAll_1 (by decide) rfl ?_
  refine am_iconstN (pc := 2) (k := 0) C dX12_bearsAll_2 ?_
  refine am_istore_n (pc := 3) (ls' := [(0, .ref 322), (1, .int set), (2, .int set), (3, .int (nI 0))]) C dX12_bearsAll_3 (by decide) rfl ?_
  have L4 : ∀ (j4 i4 : Nat), i4 + j4 = rf_M (h 323) → am_G X (am_VV ad) (0, 0) 4 [(0, .ref 322), (1, .int set), (2, .int (rf_ball (h 323) set i4)), (3, .int (nI i4))] [] r h := by
    intro j4
    induction j4 with
    | zero =>
      intro i4 hi4 
      obtain rfl : i4 = rf_M (h 323) := by omega
      refine am_iload_n (pc := 4) C dX12_bearsAll_4 rfl ?_
      refine am_aload_n (pc := 5) C dX12_bearsAll_5 rfl ?_
      refine am_callVi (Y := mX12_memories) (pc := 6) (st := [.int (nI (rf_M (h 323)))]) (As := []) (x := (nI (rf_M (h 323)))) (h2 := h) C dX12_bearsAll_6 k12_67 v_X12_memories rfl rfl bn_322 sh_322 ⟨by decide, rfl⟩ (by decide) (Nat.zero_le _) (Nat.zero_le _) (Nat.le_of_ble_eq_true rfl) (c_X12_memories hR hC) ?_
      refine am_icmp_geN (pc := 9) (tgt := 38) C dX12_bearsAll_9 (by decide) (by omega) (by omega) (fun q9 => ?_) (fun q9 => ?_)
      · skip
        refine am_iload_n (pc := 38) C dX12_bearsAll_38 rfl ?_
        exact am_ireti T dX12_bearsAll_39 rfl (Nat.le_refl _) (Nat.le_refl _) rfl rfl rfl
      · skip
        exact absurd q9 (by omega)
    | succ j4 ih4 =>
      intro i4 hi4 
      have hl4 : i4 < rf_M (h 323) := by omega
      refine am_iload_n (pc := 4) C dX12_bearsAll_4 rfl ?_
      refine am_aload_n (pc := 5) C dX12_bearsAll_5 rfl ?_
      refine am_callVi (Y := mX12_memories) (pc := 6) (st := [.int (nI i4)]) (As := []) (x := (nI (rf_M (h 323)))) (h2 := h) C dX12_bearsAll_6 k12_67 v_X12_memories rfl rfl bn_322 sh_322 ⟨by decide, rfl⟩ (by decide) (Nat.zero_le _) (Nat.zero_le _) (Nat.le_of_ble_eq_true rfl) (c_X12_memories hR hC) ?_
      refine am_icmp_geN (pc := 9) (tgt := 38) C dX12_bearsAll_9 (by decide) (by omega) (by omega) (fun q9 => ?_) (fun q9 => ?_)
      · skip
        exact absurd q9 (by omega)
      · skip
        refine am_iload_n (pc := 12) C dX12_bearsAll_12 rfl ?_
        refine am_iload_n (pc := 13) C dX12_bearsAll_13 rfl ?_
        refine am_iload_n (pc := 14) C dX12_bearsAll_14 rfl ?_
        refine am_callSi (Y := mX12_has) (pc := 15) (st := [.int (rf_ball (h 323) set i4)]) (As := [.int set, .int (nI i4)]) (x := (am_b (am_bt set i4))) (h2 := h) C dX12_bearsAll_15 k12_81 v_X12_has rfl rfl (by decide) (Nat.zero_le _) (Nat.zero_le _) (Nat.le_of_ble_eq_true rfl) (c_X12_has hR set i4 (show i4 < 32 from by omega)) ?_
        refine am_if_eqB (pc := 18) (tgt := 29) C dX12_bearsAll_18 (by decide) (fun q18 => ?_) (fun q18 => ?_)
        · skip
          refine am_iconstN (pc := 29) (k := 0) C dX12_bearsAll_29 ?_
          refine am_ior (pc := 30) C dX12_bearsAll_30 ?_
          refine am_istore_n (pc := 31) (ls' := [(0, .ref 322), (1, .int set), (2, .int ((rf_ball (h 323) set i4) ||| (nI 0))), (3, .int (nI i4))]) C dX12_bearsAll_31 (by decide) rfl ?_
          refine am_iincN (pc := 32) (ls' := [(0, .ref 322), (1, .int set), (2, .int ((rf_ball (h 323) set i4) ||| (nI 0))), (3, .int (nI (i4 + 1)))]) C dX12_bearsAll_32 rfl (am_up1 _) (by decide) rfl ?_
          refine am_goto (pc := 35) (tgt := 4) C dX12_bearsAll_35 (by decide) ?_
          refine am_lsv (ls' := [(0, .ref 322), (1, .int set), (2, .int (rf_ball (h 323) set (i4 + 1))), (3, .int (nI (i4 + 1)))]) (by rw [show ((rf_ball (h 323) set i4) ||| (nI 0)) = (rf_ball (h 323) set (i4 + 1)) from (by rw [rf_ball]; simp [q9, q18])]) ?_
          exact ih4 (i4 + 1) (by omega) 
        · skip
          refine am_aload_n (pc := 21) C dX12_bearsAll_21 rfl ?_
          refine am_iload_n (pc := 22) C dX12_bearsAll_22 rfl ?_
          refine am_callVi (Y := mX12_bears) (pc := 23) (st := [.int (rf_ball (h 323) set i4)]) (As := [.int (nI i4)]) (x := (rf_bears (h 323) i4)) (h2 := h) C dX12_bearsAll_23 k12_298 v_X12_bears rfl rfl bn_322 sh_322 ⟨by decide, rfl⟩ (by decide) (Nat.zero_le _) (Nat.zero_le _) (Nat.le_of_ble_eq_true rfl) (c_X12_bears hR i4 (show i4 < 16 from by omega)) ?_
          refine am_goto (pc := 26) (tgt := 30) C dX12_bearsAll_26 (by decide) ?_
          refine am_ior (pc := 30) C dX12_bearsAll_30 ?_
          refine am_istore_n (pc := 31) (ls' := [(0, .ref 322), (1, .int set), (2, .int ((rf_ball (h 323) set i4) ||| (rf_bears (h 323) i4))), (3, .int (nI i4))]) C dX12_bearsAll_31 (by decide) rfl ?_
          refine am_iincN (pc := 32) (ls' := [(0, .ref 322), (1, .int set), (2, .int ((rf_ball (h 323) set i4) ||| (rf_bears (h 323) i4))), (3, .int (nI (i4 + 1)))]) C dX12_bearsAll_32 rfl (am_up1 _) (by decide) rfl ?_
          refine am_goto (pc := 35) (tgt := 4) C dX12_bearsAll_35 (by decide) ?_
          refine am_lsv (ls' := [(0, .ref 322), (1, .int set), (2, .int (rf_ball (h 323) set (i4 + 1))), (3, .int (nI (i4 + 1)))]) (by rw [show ((rf_ball (h 323) set i4) ||| (rf_bears (h 323) i4)) = (rf_ball (h 323) set (i4 + 1)) from (by rw [rf_ball]; simp [q9, q18])]) ?_
          exact ih4 (i4 + 1) (by omega) 
  exact L4 (rf_M (h 323)) 0 (by omega) 

set_option maxHeartbeats 400000 in
set_option maxRecDepth 100000 in
theorem c_X12_restsOn {ad : Nat → Nat} {r : am_R} (hR : am_rs r) {h : am_H} (m : Nat) (hm : m < rf_M (h 323)) (hC : rf_Cn (h 323))  : am_CM mX12_restsOn 2 0 0 [.ref 322, .int (nI m)] (am_VV ad) r h (am_po (some (.int (rf_rests (h 323) m))) r h) := by
  refine am_CM.of (by decide +kernel) (Nat.le_of_ble_eq_true rfl) (fun X C T => ?_)
  show am_G X (am_VV ad) (0, 0) 0 [(0, .ref 322), (1, .int (nI m))] [] r h
  have hM9 : rf_M (h 323) < 17 := hC.1.2
  refine am_iconstN (pc := 0) (k := 0) C dX12_restsOn_0 ?_
  refine am_istore_n (pc := 1) (ls' := [(0, .ref 322), (1, .int (nI m)), (2, .int (nI 0))]) C dX12_restsOn_1 (by decide) rfl ?_
  refine am_iload_n (pc := 2) C dX12_restsOn_2 rfl ?_
  refine am_iconstN (pc := 3) (k := 1) C dX12_restsOn_3 ?_
  refine am_iaddN (pc := 4) C dX12_restsOn_4 ?_
  refine am_istore_n (pc := 5) (ls' := [(0, .ref 322), (1, .int (nI m)), (2, .int (nI 0)), (3, .int (nI (m + 1)))]) C dX12_restsOn_5 (by decide) rfl ?_
  have L6 : ∀ (j6 i6 : Nat), i6 + j6 = rf_M (h 323) → (hi0 : m < i6) → am_G X (am_VV ad) (0, 0) 6 [(0, .ref 322), (1, .int (nI m)), (2, .int (rf_set (fun o => decide (m < o) && am_bt (rf_bears (h 323) o) m) i6)), (3, .int (nI i6))] [] r h := by
    intro j6
    induction j6 with
    | zero =>
      intro i6 hi6 hi0
      obtain rfl : i6 = rf_M (h 323) := by omega
      refine am_iload_n (pc := 6) C dX12_restsOn_6 rfl ?_
      refine am_aload_n (pc := 7) C dX12_restsOn_7 rfl ?_
      refine am_callVi (Y := mX12_memories) (pc := 8) (st := [.int (nI (rf_M (h 323)))]) (As := []) (x := (nI (rf_M (h 323)))) (h2 := h) C dX12_restsOn_8 k12_67 v_X12_memories rfl rfl bn_322 sh_322 ⟨by decide, rfl⟩ (by decide) (Nat.zero_le _) (Nat.zero_le _) (Nat.le_of_ble_eq_true rfl) (c_X12_memories hR hC) ?_
      refine am_icmp_geN (pc := 11) (tgt := 42) C dX12_restsOn_11 (by decide) (by omega) (by omega) (fun q11 => ?_) (fun q11 => ?_)
      · skip
        refine am_iload_n (pc := 42) C dX12_restsOn_42 rfl ?_
        exact am_ireti T dX12_restsOn_43 rfl (Nat.le_refl _) (Nat.le_refl _) rfl rfl rfl
      · skip
        exact absurd q11 (by omega)
    | succ j6 ih6 =>
      intro i6 hi6 hi0
      have hl6 : i6 < rf_M (h 323) := by omega
      refine am_iload_n (pc := 6) C dX12_restsOn_6 rfl ?_
      refine am_aload_n (pc := 7) C dX12_restsOn_7 rfl ?_
      refine am_callVi (Y := mX12_memories) (pc := 8) (st := [.int (nI i6)]) (As := []) (x := (nI (rf_M (h 323)))) (h2 := h) C dX12_restsOn_8 k12_67 v_X12_memories rfl rfl bn_322 sh_322 ⟨by decide, rfl⟩ (by decide) (Nat.zero_le _) (Nat.zero_le _) (Nat.le_of_ble_eq_true rfl) (c_X12_memories hR hC) ?_
      refine am_icmp_geN (pc := 11) (tgt := 42) C dX12_restsOn_11 (by decide) (by omega) (by omega) (fun q11 => ?_) (fun q11 => ?_)
      · skip
        exact absurd q11 (by omega)
      · skip
        refine am_iload_n (pc := 14) C dX12_restsOn_14 rfl ?_
        refine am_aload_n (pc := 15) C dX12_restsOn_15 rfl ?_
        refine am_iload_n (pc := 16) C dX12_restsOn_16 rfl ?_
        refine am_callVi (Y := mX12_bears) (pc := 17) (st := [.int (rf_set (fun o => decide (m < o) && am_bt (rf_bears (h 323) o) m) i6)]) (As := [.int (nI i6)]) (x := (rf_bears (h 323) i6)) (h2 := h) C dX12_restsOn_17 k12_298 v_X12_bears rfl rfl bn_322 sh_322 ⟨by decide, rfl⟩ (by decide) (Nat.zero_le _) (Nat.zero_le _) (Nat.le_of_ble_eq_true rfl) (c_X12_bears hR i6 (show i6 < 16 from by omega)) ?_
        refine am_iload_n (pc := 20) C dX12_restsOn_20 rfl ?_
        refine am_callSi (Y := mX12_has) (pc := 21) (st := [.int (rf_set (fun o => decide (m < o) && am_bt (rf_bears (h 323) o) m) i6)]) (As := [.int (rf_bears (h 323) i6), .int (nI m)]) (x := (am_b (am_bt (rf_bears (h 323) i6) m))) (h2 := h) C dX12_restsOn_21 k12_81 v_X12_has rfl rfl (by decide) (Nat.zero_le _) (Nat.zero_le _) (Nat.le_of_ble_eq_true rfl) (c_X12_has hR (rf_bears (h 323) i6) m (show m < 32 from by omega)) ?_
        refine am_if_eqB (pc := 24) (tgt := 33) C dX12_restsOn_24 (by decide) (fun q24 => ?_) (fun q24 => ?_)
        · skip
          refine am_iconstN (pc := 33) (k := 0) C dX12_restsOn_33 ?_
          refine am_ior (pc := 34) C dX12_restsOn_34 ?_
          refine am_istore_n (pc := 35) (ls' := [(0, .ref 322), (1, .int (nI m)), (2, .int ((rf_set (fun o => decide (m < o) && am_bt (rf_bears (h 323) o) m) i6) ||| (nI 0))), (3, .int (nI i6))]) C dX12_restsOn_35 (by decide) rfl ?_
          refine am_iincN (pc := 36) (ls' := [(0, .ref 322), (1, .int (nI m)), (2, .int ((rf_set (fun o => decide (m < o) && am_bt (rf_bears (h 323) o) m) i6) ||| (nI 0))), (3, .int (nI (i6 + 1)))]) C dX12_restsOn_36 rfl (am_up1 _) (by decide) rfl ?_
          refine am_goto (pc := 39) (tgt := 6) C dX12_restsOn_39 (by decide) ?_
          refine am_lsv (ls' := [(0, .ref 322), (1, .int (nI m)), (2, .int (rf_set (fun o => decide (m < o) && am_bt (rf_bears (h 323) o) m) (i6 + 1))), (3, .int (nI (i6 + 1)))]) (by rw [show ((rf_set (fun o => decide (m < o) && am_bt (rf_bears (h 323) o) m) i6) ||| (nI 0)) = (rf_set (fun o => decide (m < o) && am_bt (rf_bears (h 323) o) m) (i6 + 1)) from (by first | exact rf_set_t (by simp [q11, q24, hi0]) | exact rf_set_f (by simp [q11, q24, hi0]))]) ?_
          exact ih6 (i6 + 1) (by omega) (by omega)
        · skip
          refine am_iconstN (pc := 27) (k := 1) C dX12_restsOn_27 ?_
          refine am_iload_n (pc := 28) C dX12_restsOn_28 rfl ?_
          refine am_ishl (pc := 29) C dX12_restsOn_29 ?_
          refine am_goto (pc := 30) (tgt := 34) C dX12_restsOn_30 (by decide) ?_
          refine am_ior (pc := 34) C dX12_restsOn_34 ?_
          refine am_istore_n (pc := 35) (ls' := [(0, .ref 322), (1, .int (nI m)), (2, .int ((rf_set (fun o => decide (m < o) && am_bt (rf_bears (h 323) o) m) i6) ||| ((nI 1) <<< ((nI i6) &&& 31)))), (3, .int (nI i6))]) C dX12_restsOn_35 (by decide) rfl ?_
          refine am_iincN (pc := 36) (ls' := [(0, .ref 322), (1, .int (nI m)), (2, .int ((rf_set (fun o => decide (m < o) && am_bt (rf_bears (h 323) o) m) i6) ||| ((nI 1) <<< ((nI i6) &&& 31)))), (3, .int (nI (i6 + 1)))]) C dX12_restsOn_36 rfl (am_up1 _) (by decide) rfl ?_
          refine am_goto (pc := 39) (tgt := 6) C dX12_restsOn_39 (by decide) ?_
          refine am_lsv (ls' := [(0, .ref 322), (1, .int (nI m)), (2, .int (rf_set (fun o => decide (m < o) && am_bt (rf_bears (h 323) o) m) (i6 + 1))), (3, .int (nI (i6 + 1)))]) (by rw [show ((rf_set (fun o => decide (m < o) && am_bt (rf_bears (h 323) o) m) i6) ||| ((nI 1) <<< ((nI i6) &&& 31))) = (rf_set (fun o => decide (m < o) && am_bt (rf_bears (h 323) o) m) (i6 + 1)) from (by first | exact rf_set_t (by simp [q11, q24, hi0]) | exact rf_set_f (by simp [q11, q24, hi0]))]) ?_
          exact ih6 (i6 + 1) (by omega) (by omega)
  refine am_lsv (ls' := [(0, .ref 322), (1, .int (nI m)), (2, .int (rf_set (fun o => decide (m < o) && am_bt (rf_bears (h 323) o) m) (m + 1))), (3, .int (nI (m + 1)))]) (by rw [show (nI 0) = (rf_set (fun o => decide (m < o) && am_bt (rf_bears (h 323) o) m) (m + 1)) from (rf_set_none (fun k hk => by simp; omega)).symm]) ?_
  exact L6 (rf_M (h 323) - (m + 1)) (m + 1) (by omega) (by omega)

set_option maxHeartbeats 400000 in
set_option maxRecDepth 100000 in
theorem c_X12_knowers {ad : Nat → Nat} {r : am_R} (hR : am_rs r) {h : am_H} (m : Nat) (hm : m < 32) (hV : rf_I (h 323))  : am_CM mX12_knowers 3 0 0 [.ref 322, .int (nI m)] (am_VV ad) r h (am_po (some (.int (rf_knowers (h 323) m))) r h) := by
  refine am_CM.of (by decide +kernel) (Nat.le_of_ble_eq_true rfl) (fun X C T => ?_)
  show am_G X (am_VV ad) (0, 0) 0 [(0, .ref 322), (1, .int (nI m))] [] r h
  have hM9 : rf_M (h 323) < 17 := hV.1.1.2
  have hS9 : rf_S (h 323) < 11 := hV.1.2.1.2
  have hO9 : rf_O (h 323) < 11 := hV.1.2.2.2
  refine am_iconstN (pc := 0) (k := 0) C dX12_knowers_0 ?_
  refine am_istore_n (pc := 1) (ls' := [(0, .ref 322), (1, .int (nI m)), (2, .int (nI 0))]) C dX12_knowers_1 (by decide) rfl ?_
  refine am_iconstN (pc := 2) (k := 0) C dX12_knowers_2 ?_
  refine am_istore_n (pc := 3) (ls' := [(0, .ref 322), (1, .int (nI m)), (2, .int (nI 0)), (3, .int (nI 0))]) C dX12_knowers_3 (by decide) rfl ?_
  have L4 : ∀ (j4 i4 : Nat), i4 + j4 = rf_S (h 323) → am_G X (am_VV ad) (0, 0) 4 [(0, .ref 322), (1, .int (nI m)), (2, .int (rf_set (fun s => am_bt (rf_known (h 323) s) m) i4)), (3, .int (nI i4))] [] r h := by
    intro j4
    induction j4 with
    | zero =>
      intro i4 hi4 
      obtain rfl : i4 = rf_S (h 323) := by omega
      refine am_iload_n (pc := 4) C dX12_knowers_4 rfl ?_
      refine am_aload_n (pc := 5) C dX12_knowers_5 rfl ?_
      refine am_callVi (Y := mX12_soldiers) (pc := 6) (st := [.int (nI (rf_S (h 323)))]) (As := []) (x := (nI (rf_S (h 323)))) (h2 := h) C dX12_knowers_6 k12_75 v_X12_soldiers rfl rfl bn_322 sh_322 ⟨by decide, rfl⟩ (by decide) (Nat.zero_le _) (Nat.zero_le _) (Nat.le_of_ble_eq_true rfl) (c_X12_soldiers hR (show rf_Cn (h 323) from hV.1)) ?_
      refine am_icmp_geN (pc := 9) (tgt := 40) C dX12_knowers_9 (by decide) (by omega) (by omega) (fun q9 => ?_) (fun q9 => ?_)
      · skip
        refine am_iload_n (pc := 40) C dX12_knowers_40 rfl ?_
        exact am_ireti T dX12_knowers_41 rfl (Nat.le_refl _) (Nat.le_refl _) rfl rfl rfl
      · skip
        exact absurd q9 (by omega)
    | succ j4 ih4 =>
      intro i4 hi4 
      have hl4 : i4 < rf_S (h 323) := by omega
      refine am_iload_n (pc := 4) C dX12_knowers_4 rfl ?_
      refine am_aload_n (pc := 5) C dX12_knowers_5 rfl ?_
      refine am_callVi (Y := mX12_soldiers) (pc := 6) (st := [.int (nI i4)]) (As := []) (x := (nI (rf_S (h 323)))) (h2 := h) C dX12_knowers_6 k12_75 v_X12_soldiers rfl rfl bn_322 sh_322 ⟨by decide, rfl⟩ (by decide) (Nat.zero_le _) (Nat.zero_le _) (Nat.le_of_ble_eq_true rfl) (c_X12_soldiers hR (show rf_Cn (h 323) from hV.1)) ?_
      refine am_icmp_geN (pc := 9) (tgt := 40) C dX12_knowers_9 (by decide) (by omega) (by omega) (fun q9 => ?_) (fun q9 => ?_)
      · skip
        exact absurd q9 (by omega)
      · skip
        refine am_iload_n (pc := 12) C dX12_knowers_12 rfl ?_
        refine am_aload_n (pc := 13) C dX12_knowers_13 rfl ?_
        refine am_iload_n (pc := 14) C dX12_knowers_14 rfl ?_
        refine am_callVi (Y := mX12_knownOf) (pc := 15) (st := [.int (rf_set (fun s => am_bt (rf_known (h 323) s) m) i4)]) (As := [.int (nI i4)]) (x := (rf_known (h 323) i4)) (h2 := h) C dX12_knowers_15 k12_88 v_X12_knownOf rfl rfl bn_322 sh_322 ⟨by decide, rfl⟩ (by decide) (Nat.zero_le _) (Nat.zero_le _) (Nat.le_of_ble_eq_true rfl) (c_X12_knownOf hR i4 (show i4 < rf_S (h 323) from by omega) (show rf_Is (h 323) i4 from (hV.2.1 i4 (by omega))) (show rf_Cn (h 323) from hV.1)) ?_
        refine am_iload_n (pc := 18) C dX12_knowers_18 rfl ?_
        refine am_callSi (Y := mX12_has) (pc := 19) (st := [.int (rf_set (fun s => am_bt (rf_known (h 323) s) m) i4)]) (As := [.int (rf_known (h 323) i4), .int (nI m)]) (x := (am_b (am_bt (rf_known (h 323) i4) m))) (h2 := h) C dX12_knowers_19 k12_81 v_X12_has rfl rfl (by decide) (Nat.zero_le _) (Nat.zero_le _) (Nat.le_of_ble_eq_true rfl) (c_X12_has hR (rf_known (h 323) i4) m hm) ?_
        refine am_if_eqB (pc := 22) (tgt := 31) C dX12_knowers_22 (by decide) (fun q22 => ?_) (fun q22 => ?_)
        · skip
          refine am_iconstN (pc := 31) (k := 0) C dX12_knowers_31 ?_
          refine am_ior (pc := 32) C dX12_knowers_32 ?_
          refine am_istore_n (pc := 33) (ls' := [(0, .ref 322), (1, .int (nI m)), (2, .int ((rf_set (fun s => am_bt (rf_known (h 323) s) m) i4) ||| (nI 0))), (3, .int (nI i4))]) C dX12_knowers_33 (by decide) rfl ?_
          refine am_iincN (pc := 34) (ls' := [(0, .ref 322), (1, .int (nI m)), (2, .int ((rf_set (fun s => am_bt (rf_known (h 323) s) m) i4) ||| (nI 0))), (3, .int (nI (i4 + 1)))]) C dX12_knowers_34 rfl (am_up1 _) (by decide) rfl ?_
          refine am_goto (pc := 37) (tgt := 4) C dX12_knowers_37 (by decide) ?_
          refine am_lsv (ls' := [(0, .ref 322), (1, .int (nI m)), (2, .int (rf_set (fun s => am_bt (rf_known (h 323) s) m) (i4 + 1))), (3, .int (nI (i4 + 1)))]) (by rw [show ((rf_set (fun s => am_bt (rf_known (h 323) s) m) i4) ||| (nI 0)) = (rf_set (fun s => am_bt (rf_known (h 323) s) m) (i4 + 1)) from (by first | exact rf_set_t (by simp [q9, q22]) | exact rf_set_f (by simp [q9, q22]))]) ?_
          exact ih4 (i4 + 1) (by omega) 
        · skip
          refine am_iconstN (pc := 25) (k := 1) C dX12_knowers_25 ?_
          refine am_iload_n (pc := 26) C dX12_knowers_26 rfl ?_
          refine am_ishl (pc := 27) C dX12_knowers_27 ?_
          refine am_goto (pc := 28) (tgt := 32) C dX12_knowers_28 (by decide) ?_
          refine am_ior (pc := 32) C dX12_knowers_32 ?_
          refine am_istore_n (pc := 33) (ls' := [(0, .ref 322), (1, .int (nI m)), (2, .int ((rf_set (fun s => am_bt (rf_known (h 323) s) m) i4) ||| ((nI 1) <<< ((nI i4) &&& 31)))), (3, .int (nI i4))]) C dX12_knowers_33 (by decide) rfl ?_
          refine am_iincN (pc := 34) (ls' := [(0, .ref 322), (1, .int (nI m)), (2, .int ((rf_set (fun s => am_bt (rf_known (h 323) s) m) i4) ||| ((nI 1) <<< ((nI i4) &&& 31)))), (3, .int (nI (i4 + 1)))]) C dX12_knowers_34 rfl (am_up1 _) (by decide) rfl ?_
          refine am_goto (pc := 37) (tgt := 4) C dX12_knowers_37 (by decide) ?_
          refine am_lsv (ls' := [(0, .ref 322), (1, .int (nI m)), (2, .int (rf_set (fun s => am_bt (rf_known (h 323) s) m) (i4 + 1))), (3, .int (nI (i4 + 1)))]) (by rw [show ((rf_set (fun s => am_bt (rf_known (h 323) s) m) i4) ||| ((nI 1) <<< ((nI i4) &&& 31))) = (rf_set (fun s => am_bt (rf_known (h 323) s) m) (i4 + 1)) from (by first | exact rf_set_t (by simp [q9, q22]) | exact rf_set_f (by simp [q9, q22]))]) ?_
          exact ih4 (i4 + 1) (by omega) 
  exact L4 (rf_S (h 323)) 0 (by omega) 

set_option maxHeartbeats 400000 in
set_option maxRecDepth 100000 in
theorem c_X12_users {ad : Nat → Nat} {r : am_R} (hR : am_rs r) {h : am_H} (m : Nat) (hm : m < 32) (hV : rf_I (h 323))  : am_CM mX12_users 4 0 0 [.ref 322, .int (nI m)] (am_VV ad) r h (am_po (some (.int (rf_users (h 323) m))) r h) := by
  refine am_CM.of (by decide +kernel) (Nat.le_of_ble_eq_true rfl) (fun X C T => ?_)
  show am_G X (am_VV ad) (0, 0) 0 [(0, .ref 322), (1, .int (nI m))] [] r h
  have hM9 : rf_M (h 323) < 17 := hV.1.1.2
  have hS9 : rf_S (h 323) < 11 := hV.1.2.1.2
  have hO9 : rf_O (h 323) < 11 := hV.1.2.2.2
  refine am_iconstN (pc := 0) (k := 0) C dX12_users_0 ?_
  refine am_istore_n (pc := 1) (ls' := [(0, .ref 322), (1, .int (nI m)), (2, .int (nI 0))]) C dX12_users_1 (by decide) rfl ?_
  refine am_iconstN (pc := 2) (k := 0) C dX12_users_2 ?_
  refine am_istore_n (pc := 3) (ls' := [(0, .ref 322), (1, .int (nI m)), (2, .int (nI 0)), (3, .int (nI 0))]) C dX12_users_3 (by decide) rfl ?_
  have L4 : ∀ (j4 i4 : Nat), i4 + j4 = rf_S (h 323) → am_G X (am_VV ad) (0, 0) 4 [(0, .ref 322), (1, .int (nI m)), (2, .int (rf_set (fun s => am_bt (rf_use (h 323) s) m) i4)), (3, .int (nI i4))] [] r h := by
    intro j4
    induction j4 with
    | zero =>
      intro i4 hi4 
      obtain rfl : i4 = rf_S (h 323) := by omega
      refine am_iload_n (pc := 4) C dX12_users_4 rfl ?_
      refine am_aload_n (pc := 5) C dX12_users_5 rfl ?_
      refine am_callVi (Y := mX12_soldiers) (pc := 6) (st := [.int (nI (rf_S (h 323)))]) (As := []) (x := (nI (rf_S (h 323)))) (h2 := h) C dX12_users_6 k12_75 v_X12_soldiers rfl rfl bn_322 sh_322 ⟨by decide, rfl⟩ (by decide) (Nat.zero_le _) (Nat.zero_le _) (Nat.le_of_ble_eq_true rfl) (c_X12_soldiers hR (show rf_Cn (h 323) from hV.1)) ?_
      refine am_icmp_geN (pc := 9) (tgt := 40) C dX12_users_9 (by decide) (by omega) (by omega) (fun q9 => ?_) (fun q9 => ?_)
      · skip
        refine am_iload_n (pc := 40) C dX12_users_40 rfl ?_
        exact am_ireti T dX12_users_41 rfl (Nat.le_refl _) (Nat.le_refl _) rfl rfl rfl
      · skip
        exact absurd q9 (by omega)
    | succ j4 ih4 =>
      intro i4 hi4 
      have hl4 : i4 < rf_S (h 323) := by omega
      refine am_iload_n (pc := 4) C dX12_users_4 rfl ?_
      refine am_aload_n (pc := 5) C dX12_users_5 rfl ?_
      refine am_callVi (Y := mX12_soldiers) (pc := 6) (st := [.int (nI i4)]) (As := []) (x := (nI (rf_S (h 323)))) (h2 := h) C dX12_users_6 k12_75 v_X12_soldiers rfl rfl bn_322 sh_322 ⟨by decide, rfl⟩ (by decide) (Nat.zero_le _) (Nat.zero_le _) (Nat.le_of_ble_eq_true rfl) (c_X12_soldiers hR (show rf_Cn (h 323) from hV.1)) ?_
      refine am_icmp_geN (pc := 9) (tgt := 40) C dX12_users_9 (by decide) (by omega) (by omega) (fun q9 => ?_) (fun q9 => ?_)
      · skip
        exact absurd q9 (by omega)
      · skip
        refine am_iload_n (pc := 12) C dX12_users_12 rfl ?_
        refine am_aload_n (pc := 13) C dX12_users_13 rfl ?_
        refine am_iload_n (pc := 14) C dX12_users_14 rfl ?_
        refine am_callVi (Y := mX12_usableOf) (pc := 15) (st := [.int (rf_set (fun s => am_bt (rf_use (h 323) s) m) i4)]) (As := [.int (nI i4)]) (x := (rf_use (h 323) i4)) (h2 := h) C dX12_users_15 k12_275 v_X12_usableOf rfl rfl bn_322 sh_322 ⟨by decide, rfl⟩ (by decide) (Nat.zero_le _) (Nat.zero_le _) (Nat.le_of_ble_eq_true rfl) (c_X12_usableOf hR i4 (show i4 < rf_S (h 323) from by omega) (show rf_Is (h 323) i4 from (hV.2.1 i4 (by omega))) (show rf_Cn (h 323) from hV.1)) ?_
        refine am_iload_n (pc := 18) C dX12_users_18 rfl ?_
        refine am_callSi (Y := mX12_has) (pc := 19) (st := [.int (rf_set (fun s => am_bt (rf_use (h 323) s) m) i4)]) (As := [.int (rf_use (h 323) i4), .int (nI m)]) (x := (am_b (am_bt (rf_use (h 323) i4) m))) (h2 := h) C dX12_users_19 k12_81 v_X12_has rfl rfl (by decide) (Nat.zero_le _) (Nat.zero_le _) (Nat.le_of_ble_eq_true rfl) (c_X12_has hR (rf_use (h 323) i4) m hm) ?_
        refine am_if_eqB (pc := 22) (tgt := 31) C dX12_users_22 (by decide) (fun q22 => ?_) (fun q22 => ?_)
        · skip
          refine am_iconstN (pc := 31) (k := 0) C dX12_users_31 ?_
          refine am_ior (pc := 32) C dX12_users_32 ?_
          refine am_istore_n (pc := 33) (ls' := [(0, .ref 322), (1, .int (nI m)), (2, .int ((rf_set (fun s => am_bt (rf_use (h 323) s) m) i4) ||| (nI 0))), (3, .int (nI i4))]) C dX12_users_33 (by decide) rfl ?_
          refine am_iincN (pc := 34) (ls' := [(0, .ref 322), (1, .int (nI m)), (2, .int ((rf_set (fun s => am_bt (rf_use (h 323) s) m) i4) ||| (nI 0))), (3, .int (nI (i4 + 1)))]) C dX12_users_34 rfl (am_up1 _) (by decide) rfl ?_
          refine am_goto (pc := 37) (tgt := 4) C dX12_users_37 (by decide) ?_
          refine am_lsv (ls' := [(0, .ref 322), (1, .int (nI m)), (2, .int (rf_set (fun s => am_bt (rf_use (h 323) s) m) (i4 + 1))), (3, .int (nI (i4 + 1)))]) (by rw [show ((rf_set (fun s => am_bt (rf_use (h 323) s) m) i4) ||| (nI 0)) = (rf_set (fun s => am_bt (rf_use (h 323) s) m) (i4 + 1)) from (by first | exact rf_set_t (by simp [q9, q22]) | exact rf_set_f (by simp [q9, q22]))]) ?_
          exact ih4 (i4 + 1) (by omega) 
        · skip
          refine am_iconstN (pc := 25) (k := 1) C dX12_users_25 ?_
          refine am_iload_n (pc := 26) C dX12_users_26 rfl ?_
          refine am_ishl (pc := 27) C dX12_users_27 ?_
          refine am_goto (pc := 28) (tgt := 32) C dX12_users_28 (by decide) ?_
          refine am_ior (pc := 32) C dX12_users_32 ?_
          refine am_istore_n (pc := 33) (ls' := [(0, .ref 322), (1, .int (nI m)), (2, .int ((rf_set (fun s => am_bt (rf_use (h 323) s) m) i4) ||| ((nI 1) <<< ((nI i4) &&& 31)))), (3, .int (nI i4))]) C dX12_users_33 (by decide) rfl ?_
          refine am_iincN (pc := 34) (ls' := [(0, .ref 322), (1, .int (nI m)), (2, .int ((rf_set (fun s => am_bt (rf_use (h 323) s) m) i4) ||| ((nI 1) <<< ((nI i4) &&& 31)))), (3, .int (nI (i4 + 1)))]) C dX12_users_34 rfl (am_up1 _) (by decide) rfl ?_
          refine am_goto (pc := 37) (tgt := 4) C dX12_users_37 (by decide) ?_
          refine am_lsv (ls' := [(0, .ref 322), (1, .int (nI m)), (2, .int (rf_set (fun s => am_bt (rf_use (h 323) s) m) (i4 + 1))), (3, .int (nI (i4 + 1)))]) (by rw [show ((rf_set (fun s => am_bt (rf_use (h 323) s) m) i4) ||| ((nI 1) <<< ((nI i4) &&& 31))) = (rf_set (fun s => am_bt (rf_use (h 323) s) m) (i4 + 1)) from (by first | exact rf_set_t (by simp [q9, q22]) | exact rf_set_f (by simp [q9, q22]))]) ?_
          exact ih4 (i4 + 1) (by omega) 
  exact L4 (rf_S (h 323)) 0 (by omega) 

set_option maxHeartbeats 400000 in
set_option maxRecDepth 100000 in
theorem c_X12_sideOf {ad : Nat → Nat} {r : am_R} (hR : am_rs r) {h : am_H} (side : Int32) (hC : rf_Cn (h 323))  : am_CM mX12_sideOf 1 0 0 [.ref 322, .int side] (am_VV ad) r h (am_po (some (.int (rf_sideOf (h 323) side))) r h) := by
  refine am_CM.of (by decide +kernel) (Nat.le_of_ble_eq_true rfl) (fun X C T => ?_)
  show am_G X (am_VV ad) (0, 0) 0 [(0, .ref 322), (1, .int side)] [] r h
  have hS9 : rf_S (h 323) < 11 := hC.2.1.2
  refine am_iconstN (pc := 0) (k := 0) C dX12_sideOf_0 ?_
  refine am_istore_n (pc := 1) (ls' := [(0, .ref 322), (1, .int side), (2, .int (nI 0))]) C dX12_sideOf_1 (by decide) rfl ?_
  refine am_iconstN (pc := 2) (k := 0) C dX12_sideOf_2 ?_
  refine am_istore_n (pc := 3) (ls' := [(0, .ref 322), (1, .int side), (2, .int (nI 0)), (3, .int (nI 0))]) C dX12_sideOf_3 (by decide) rfl ?_
  have L4 : ∀ (j4 i4 : Nat), i4 + j4 = rf_S (h 323) → am_G X (am_VV ad) (0, 0) 4 [(0, .ref 322), (1, .int side), (2, .int (rf_set (fun s => decide (rf_of (h 323) s 0 = side)) i4)), (3, .int (nI i4))] [] r h := by
    intro j4
    induction j4 with
    | zero =>
      intro i4 hi4 
      obtain rfl : i4 = rf_S (h 323) := by omega
      refine am_iload_n (pc := 4) C dX12_sideOf_4 rfl ?_
      refine am_aload_n (pc := 5) C dX12_sideOf_5 rfl ?_
      refine am_callVi (Y := mX12_soldiers) (pc := 6) (st := [.int (nI (rf_S (h 323)))]) (As := []) (x := (nI (rf_S (h 323)))) (h2 := h) C dX12_sideOf_6 k12_75 v_X12_soldiers rfl rfl bn_322 sh_322 ⟨by decide, rfl⟩ (by decide) (Nat.zero_le _) (Nat.zero_le _) (Nat.le_of_ble_eq_true rfl) (c_X12_soldiers hR hC) ?_
      refine am_icmp_geN (pc := 9) (tgt := 38) C dX12_sideOf_9 (by decide) (by omega) (by omega) (fun q9 => ?_) (fun q9 => ?_)
      · skip
        refine am_iload_n (pc := 38) C dX12_sideOf_38 rfl ?_
        exact am_ireti T dX12_sideOf_39 rfl (Nat.le_refl _) (Nat.le_refl _) rfl rfl rfl
      · skip
        exact absurd q9 (by omega)
    | succ j4 ih4 =>
      intro i4 hi4 
      have hl4 : i4 < rf_S (h 323) := by omega
      refine am_iload_n (pc := 4) C dX12_sideOf_4 rfl ?_
      refine am_aload_n (pc := 5) C dX12_sideOf_5 rfl ?_
      refine am_callVi (Y := mX12_soldiers) (pc := 6) (st := [.int (nI i4)]) (As := []) (x := (nI (rf_S (h 323)))) (h2 := h) C dX12_sideOf_6 k12_75 v_X12_soldiers rfl rfl bn_322 sh_322 ⟨by decide, rfl⟩ (by decide) (Nat.zero_le _) (Nat.zero_le _) (Nat.le_of_ble_eq_true rfl) (c_X12_soldiers hR hC) ?_
      refine am_icmp_geN (pc := 9) (tgt := 38) C dX12_sideOf_9 (by decide) (by omega) (by omega) (fun q9 => ?_) (fun q9 => ?_)
      · skip
        exact absurd q9 (by omega)
      · skip
        refine am_iload_n (pc := 12) C dX12_sideOf_12 rfl ?_
        refine am_aload_n (pc := 13) C dX12_sideOf_13 rfl ?_
        refine am_iload_n (pc := 14) C dX12_sideOf_14 rfl ?_
        refine am_iconstN (pc := 15) (k := 0) C dX12_sideOf_15 ?_
        refine am_callVi (Y := mX12_of) (pc := 16) (st := [.int (rf_set (fun s => decide (rf_of (h 323) s 0 = side)) i4)]) (As := [.int (nI i4), .int (nI 0)]) (x := (rf_of (h 323) i4 0)) (h2 := h) C dX12_sideOf_16 k12_63 v_X12_of rfl rfl bn_322 sh_322 ⟨by decide, rfl⟩ (by decide) (Nat.zero_le _) (Nat.zero_le _) (Nat.le_of_ble_eq_true rfl) (c_X12_of hR i4 0 (show i4 < 11 from by omega) (show 0 < 23 from by omega)) ?_
        refine am_iload_n (pc := 19) C dX12_sideOf_19 rfl ?_
        refine am_icmp_ne (pc := 20) (tgt := 29) C dX12_sideOf_20 (by decide) (fun q20 => ?_) (fun q20 => ?_)
        · skip
          refine am_iconstN (pc := 29) (k := 0) C dX12_sideOf_29 ?_
          refine am_ior (pc := 30) C dX12_sideOf_30 ?_
          refine am_istore_n (pc := 31) (ls' := [(0, .ref 322), (1, .int side), (2, .int ((rf_set (fun s => decide (rf_of (h 323) s 0 = side)) i4) ||| (nI 0))), (3, .int (nI i4))]) C dX12_sideOf_31 (by decide) rfl ?_
          refine am_iincN (pc := 32) (ls' := [(0, .ref 322), (1, .int side), (2, .int ((rf_set (fun s => decide (rf_of (h 323) s 0 = side)) i4) ||| (nI 0))), (3, .int (nI (i4 + 1)))]) C dX12_sideOf_32 rfl (am_up1 _) (by decide) rfl ?_
          refine am_goto (pc := 35) (tgt := 4) C dX12_sideOf_35 (by decide) ?_
          refine am_lsv (ls' := [(0, .ref 322), (1, .int side), (2, .int (rf_set (fun s => decide (rf_of (h 323) s 0 = side)) (i4 + 1))), (3, .int (nI (i4 + 1)))]) (by rw [show ((rf_set (fun s => decide (rf_of (h 323) s 0 = side)) i4) ||| (nI 0)) = (rf_set (fun s => decide (rf_of (h 323) s 0 = side)) (i4 + 1)) from (by first | exact rf_set_t (by simp [q9, q20]) | exact rf_set_f (by simp [q9, q20]))]) ?_
          exact ih4 (i4 + 1) (by omega) 
        · skip
          refine am_iconstN (pc := 23) (k := 1) C dX12_sideOf_23 ?_
          refine am_iload_n (pc := 24) C dX12_sideOf_24 rfl ?_
          refine am_ishl (pc := 25) C dX12_sideOf_25 ?_
          refine am_goto (pc := 26) (tgt := 30) C dX12_sideOf_26 (by decide) ?_
          refine am_ior (pc := 30) C dX12_sideOf_30 ?_
          refine am_istore_n (pc := 31) (ls' := [(0, .ref 322), (1, .int side), (2, .int ((rf_set (fun s => decide (rf_of (h 323) s 0 = side)) i4) ||| ((nI 1) <<< ((nI i4) &&& 31)))), (3, .int (nI i4))]) C dX12_sideOf_31 (by decide) rfl ?_
          refine am_iincN (pc := 32) (ls' := [(0, .ref 322), (1, .int side), (2, .int ((rf_set (fun s => decide (rf_of (h 323) s 0 = side)) i4) ||| ((nI 1) <<< ((nI i4) &&& 31)))), (3, .int (nI (i4 + 1)))]) C dX12_sideOf_32 rfl (am_up1 _) (by decide) rfl ?_
          refine am_goto (pc := 35) (tgt := 4) C dX12_sideOf_35 (by decide) ?_
          refine am_lsv (ls' := [(0, .ref 322), (1, .int side), (2, .int (rf_set (fun s => decide (rf_of (h 323) s 0 = side)) (i4 + 1))), (3, .int (nI (i4 + 1)))]) (by rw [show ((rf_set (fun s => decide (rf_of (h 323) s 0 = side)) i4) ||| ((nI 1) <<< ((nI i4) &&& 31))) = (rf_set (fun s => decide (rf_of (h 323) s 0 = side)) (i4 + 1)) from (by first | exact rf_set_t (by simp [q9, q20]) | exact rf_set_f (by simp [q9, q20]))]) ?_
          exact ih4 (i4 + 1) (by omega) 
  exact L4 (rf_S (h 323)) 0 (by omega) 

set_option maxHeartbeats 400000 in
set_option maxRecDepth 100000 in
theorem c_X12_ordersOf {ad : Nat → Nat} {r : am_R} (hR : am_rs r) {h : am_H} (s : Int32) (hC : rf_Cn (h 323))  : am_CM mX12_ordersOf 1 0 0 [.ref 322, .int s] (am_VV ad) r h (am_po (some (.int (rf_ordersOf (h 323) s))) r h) := by
  refine am_CM.of (by decide +kernel) (Nat.le_of_ble_eq_true rfl) (fun X C T => ?_)
  show am_G X (am_VV ad) (0, 0) 0 [(0, .ref 322), (1, .int s)] [] r h
  have hS9 : rf_O (h 323) < 11 := hC.2.2.2
  refine am_iconstN (pc := 0) (k := 0) C dX12_ordersOf_0 ?_
  refine am_istore_n (pc := 1) (ls' := [(0, .ref 322), (1, .int s), (2, .int (nI 0))]) C dX12_ordersOf_1 (by decide) rfl ?_
  refine am_iconstN (pc := 2) (k := 0) C dX12_ordersOf_2 ?_
  refine am_istore_n (pc := 3) (ls' := [(0, .ref 322), (1, .int s), (2, .int (nI 0)), (3, .int (nI 0))]) C dX12_ordersOf_3 (by decide) rfl ?_
  have L4 : ∀ (j4 i4 : Nat), i4 + j4 = rf_O (h 323) → am_G X (am_VV ad) (0, 0) 4 [(0, .ref 322), (1, .int s), (2, .int (rf_set (fun o => decide (rf_ord (h 323) o 0 = s)) i4)), (3, .int (nI i4))] [] r h := by
    intro j4
    induction j4 with
    | zero =>
      intro i4 hi4 
      obtain rfl : i4 = rf_O (h 323) := by omega
      refine am_iload_n (pc := 4) C dX12_ordersOf_4 rfl ?_
      refine am_aload_n (pc := 5) C dX12_ordersOf_5 rfl ?_
      refine am_callVi (Y := mX12_orders) (pc := 6) (st := [.int (nI (rf_O (h 323)))]) (As := []) (x := (nI (rf_O (h 323)))) (h2 := h) C dX12_ordersOf_6 k12_159 v_X12_orders rfl rfl bn_322 sh_322 ⟨by decide, rfl⟩ (by decide) (Nat.zero_le _) (Nat.zero_le _) (Nat.le_of_ble_eq_true rfl) (c_X12_orders hR hC) ?_
      refine am_icmp_geN (pc := 9) (tgt := 38) C dX12_ordersOf_9 (by decide) (by omega) (by omega) (fun q9 => ?_) (fun q9 => ?_)
      · skip
        refine am_iload_n (pc := 38) C dX12_ordersOf_38 rfl ?_
        exact am_ireti T dX12_ordersOf_39 rfl (Nat.le_refl _) (Nat.le_refl _) rfl rfl rfl
      · skip
        exact absurd q9 (by omega)
    | succ j4 ih4 =>
      intro i4 hi4 
      have hl4 : i4 < rf_O (h 323) := by omega
      refine am_iload_n (pc := 4) C dX12_ordersOf_4 rfl ?_
      refine am_aload_n (pc := 5) C dX12_ordersOf_5 rfl ?_
      refine am_callVi (Y := mX12_orders) (pc := 6) (st := [.int (nI i4)]) (As := []) (x := (nI (rf_O (h 323)))) (h2 := h) C dX12_ordersOf_6 k12_159 v_X12_orders rfl rfl bn_322 sh_322 ⟨by decide, rfl⟩ (by decide) (Nat.zero_le _) (Nat.zero_le _) (Nat.le_of_ble_eq_true rfl) (c_X12_orders hR hC) ?_
      refine am_icmp_geN (pc := 9) (tgt := 38) C dX12_ordersOf_9 (by decide) (by omega) (by omega) (fun q9 => ?_) (fun q9 => ?_)
      · skip
        exact absurd q9 (by omega)
      · skip
        refine am_iload_n (pc := 12) C dX12_ordersOf_12 rfl ?_
        refine am_aload_n (pc := 13) C dX12_ordersOf_13 rfl ?_
        refine am_iload_n (pc := 14) C dX12_ordersOf_14 rfl ?_
        refine am_iconstN (pc := 15) (k := 0) C dX12_ordersOf_15 ?_
        refine am_callVi (Y := mX12_ofOrder) (pc := 16) (st := [.int (rf_set (fun o => decide (rf_ord (h 323) o 0 = s)) i4)]) (As := [.int (nI i4), .int (nI 0)]) (x := (rf_ord (h 323) i4 0)) (h2 := h) C dX12_ordersOf_16 k12_319 v_X12_ofOrder rfl rfl bn_322 sh_322 ⟨by decide, rfl⟩ (by decide) (Nat.zero_le _) (Nat.zero_le _) (Nat.le_of_ble_eq_true rfl) (c_X12_ofOrder hR i4 0 (show i4 < 10 from by omega) (show 0 < 2 from by omega)) ?_
        refine am_iload_n (pc := 19) C dX12_ordersOf_19 rfl ?_
        refine am_icmp_ne (pc := 20) (tgt := 29) C dX12_ordersOf_20 (by decide) (fun q20 => ?_) (fun q20 => ?_)
        · skip
          refine am_iconstN (pc := 29) (k := 0) C dX12_ordersOf_29 ?_
          refine am_ior (pc := 30) C dX12_ordersOf_30 ?_
          refine am_istore_n (pc := 31) (ls' := [(0, .ref 322), (1, .int s), (2, .int ((rf_set (fun o => decide (rf_ord (h 323) o 0 = s)) i4) ||| (nI 0))), (3, .int (nI i4))]) C dX12_ordersOf_31 (by decide) rfl ?_
          refine am_iincN (pc := 32) (ls' := [(0, .ref 322), (1, .int s), (2, .int ((rf_set (fun o => decide (rf_ord (h 323) o 0 = s)) i4) ||| (nI 0))), (3, .int (nI (i4 + 1)))]) C dX12_ordersOf_32 rfl (am_up1 _) (by decide) rfl ?_
          refine am_goto (pc := 35) (tgt := 4) C dX12_ordersOf_35 (by decide) ?_
          refine am_lsv (ls' := [(0, .ref 322), (1, .int s), (2, .int (rf_set (fun o => decide (rf_ord (h 323) o 0 = s)) (i4 + 1))), (3, .int (nI (i4 + 1)))]) (by rw [show ((rf_set (fun o => decide (rf_ord (h 323) o 0 = s)) i4) ||| (nI 0)) = (rf_set (fun o => decide (rf_ord (h 323) o 0 = s)) (i4 + 1)) from (by first | exact rf_set_t (by simp [q9, q20]) | exact rf_set_f (by simp [q9, q20]))]) ?_
          exact ih4 (i4 + 1) (by omega) 
        · skip
          refine am_iconstN (pc := 23) (k := 1) C dX12_ordersOf_23 ?_
          refine am_iload_n (pc := 24) C dX12_ordersOf_24 rfl ?_
          refine am_ishl (pc := 25) C dX12_ordersOf_25 ?_
          refine am_goto (pc := 26) (tgt := 30) C dX12_ordersOf_26 (by decide) ?_
          refine am_ior (pc := 30) C dX12_ordersOf_30 ?_
          refine am_istore_n (pc := 31) (ls' := [(0, .ref 322), (1, .int s), (2, .int ((rf_set (fun o => decide (rf_ord (h 323) o 0 = s)) i4) ||| ((nI 1) <<< ((nI i4) &&& 31)))), (3, .int (nI i4))]) C dX12_ordersOf_31 (by decide) rfl ?_
          refine am_iincN (pc := 32) (ls' := [(0, .ref 322), (1, .int s), (2, .int ((rf_set (fun o => decide (rf_ord (h 323) o 0 = s)) i4) ||| ((nI 1) <<< ((nI i4) &&& 31)))), (3, .int (nI (i4 + 1)))]) C dX12_ordersOf_32 rfl (am_up1 _) (by decide) rfl ?_
          refine am_goto (pc := 35) (tgt := 4) C dX12_ordersOf_35 (by decide) ?_
          refine am_lsv (ls' := [(0, .ref 322), (1, .int s), (2, .int (rf_set (fun o => decide (rf_ord (h 323) o 0 = s)) (i4 + 1))), (3, .int (nI (i4 + 1)))]) (by rw [show ((rf_set (fun o => decide (rf_ord (h 323) o 0 = s)) i4) ||| ((nI 1) <<< ((nI i4) &&& 31))) = (rf_set (fun o => decide (rf_ord (h 323) o 0 = s)) (i4 + 1)) from (by first | exact rf_set_t (by simp [q9, q20]) | exact rf_set_f (by simp [q9, q20]))]) ?_
          exact ih4 (i4 + 1) (by omega) 
  exact L4 (rf_O (h 323)) 0 (by omega) 

set_option maxHeartbeats 400000 in
set_option maxRecDepth 100000 in
theorem c_X12_obeyed {ad : Nat → Nat} {r : am_R} (hR : am_rs r) {h : am_H} (n : Nat) (hV : rf_I (h 323)) (hn : n < 1000)  : am_CM mX12_obeyed 2 0 0 [.ref 322, .int (nI n)] (am_VV ad) r h (am_po (some (.int (rf_obeyed (h 323) n))) r h) := by
  refine am_CM.of (by decide +kernel) (Nat.le_of_ble_eq_true rfl) (fun X C T => ?_)
  show am_G X (am_VV ad) (0, 0) 0 [(0, .ref 322), (1, .int (nI n))] [] r h
  have hM9 : rf_M (h 323) < 17 := hV.1.1.2
  have hS9 : rf_S (h 323) < 11 := hV.1.2.1.2
  have hO9 : rf_O (h 323) < 11 := hV.1.2.2.2
  refine am_iconstN (pc := 0) (k := 0) C dX12_obeyed_0 ?_
  refine am_istore_n (pc := 1) (ls' := [(0, .ref 322), (1, .int (nI n)), (2, .int (nI 0))]) C dX12_obeyed_1 (by decide) rfl ?_
  refine am_iconstN (pc := 2) (k := 0) C dX12_obeyed_2 ?_
  refine am_istore_n (pc := 3) (ls' := [(0, .ref 322), (1, .int (nI n)), (2, .int (nI 0)), (3, .int (nI 0))]) C dX12_obeyed_3 (by decide) rfl ?_
  have L4 : ∀ (j4 i4 : Nat), i4 + j4 = rf_O (h 323) → am_G X (am_VV ad) (0, 0) 4 [(0, .ref 322), (1, .int (nI n)), (2, .int (rf_set (fun o => decide (rf_ord (h 323) o 1 &&& (rf_usable (h 323) (rf_first (h 323) (rf_nat (rf_ord (h 323) o 0)) n) ^^^ (-1)) = 0)) i4)), (3, .int (nI i4))] [] r h := by
    intro j4
    induction j4 with
    | zero =>
      intro i4 hi4 
      obtain rfl : i4 = rf_O (h 323) := by omega
      refine am_iload_n (pc := 4) C dX12_obeyed_4 rfl ?_
      refine am_aload_n (pc := 5) C dX12_obeyed_5 rfl ?_
      refine am_callVi (Y := mX12_orders) (pc := 6) (st := [.int (nI (rf_O (h 323)))]) (As := []) (x := (nI (rf_O (h 323)))) (h2 := h) C dX12_obeyed_6 k12_159 v_X12_orders rfl rfl bn_322 sh_322 ⟨by decide, rfl⟩ (by decide) (Nat.zero_le _) (Nat.zero_le _) (Nat.le_of_ble_eq_true rfl) (c_X12_orders hR (show rf_Cn (h 323) from hV.1)) ?_
      refine am_icmp_geN (pc := 9) (tgt := 55) C dX12_obeyed_9 (by decide) (by omega) (by omega) (fun q9 => ?_) (fun q9 => ?_)
      · skip
        refine am_iload_n (pc := 55) C dX12_obeyed_55 rfl ?_
        exact am_ireti T dX12_obeyed_56 rfl (Nat.le_refl _) (Nat.le_refl _) rfl rfl rfl
      · skip
        exact absurd q9 (by omega)
    | succ j4 ih4 =>
      intro i4 hi4 
      have hl4 : i4 < rf_O (h 323) := by omega
      have ho9 : rf_nat (rf_ord (h 323) i4 0) < rf_S (h 323) := (hV.2.2.2.1 i4 hl4).1.2
      refine am_iload_n (pc := 4) C dX12_obeyed_4 rfl ?_
      refine am_aload_n (pc := 5) C dX12_obeyed_5 rfl ?_
      refine am_callVi (Y := mX12_orders) (pc := 6) (st := [.int (nI i4)]) (As := []) (x := (nI (rf_O (h 323)))) (h2 := h) C dX12_obeyed_6 k12_159 v_X12_orders rfl rfl bn_322 sh_322 ⟨by decide, rfl⟩ (by decide) (Nat.zero_le _) (Nat.zero_le _) (Nat.le_of_ble_eq_true rfl) (c_X12_orders hR (show rf_Cn (h 323) from hV.1)) ?_
      refine am_icmp_geN (pc := 9) (tgt := 55) C dX12_obeyed_9 (by decide) (by omega) (by omega) (fun q9 => ?_) (fun q9 => ?_)
      · skip
        exact absurd q9 (by omega)
      · skip
        refine am_iload_n (pc := 12) C dX12_obeyed_12 rfl ?_
        refine am_aload_n (pc := 13) C dX12_obeyed_13 rfl ?_
        refine am_iload_n (pc := 14) C dX12_obeyed_14 rfl ?_
        refine am_iconstN (pc := 15) (k := 1) C dX12_obeyed_15 ?_
        refine am_callVi (Y := mX12_ofOrder) (pc := 16) (st := [.int (rf_set (fun o => decide (rf_ord (h 323) o 1 &&& (rf_usable (h 323) (rf_first (h 323) (rf_nat (rf_ord (h 323) o 0)) n) ^^^ (-1)) = 0)) i4)]) (As := [.int (nI i4), .int (nI 1)]) (x := (rf_ord (h 323) i4 1)) (h2 := h) C dX12_obeyed_16 k12_319 v_X12_ofOrder rfl rfl bn_322 sh_322 ⟨by decide, rfl⟩ (by decide) (Nat.zero_le _) (Nat.zero_le _) (Nat.le_of_ble_eq_true rfl) (c_X12_ofOrder hR i4 1 (show i4 < 10 from by omega) (show 1 < 2 from by omega)) ?_
        refine am_aload_n (pc := 19) C dX12_obeyed_19 rfl ?_
        refine am_aload_n (pc := 20) C dX12_obeyed_20 rfl ?_
        refine am_aload_n (pc := 21) C dX12_obeyed_21 rfl ?_
        refine am_iload_n (pc := 22) C dX12_obeyed_22 rfl ?_
        refine am_iconstN (pc := 23) (k := 0) C dX12_obeyed_23 ?_
        refine am_callVi (Y := mX12_ofOrder) (pc := 24) (st := [.ref 322, .ref 322, .int (rf_ord (h 323) i4 1), .int (rf_set (fun o => decide (rf_ord (h 323) o 1 &&& (rf_usable (h 323) (rf_first (h 323) (rf_nat (rf_ord (h 323) o 0)) n) ^^^ (-1)) = 0)) i4)]) (As := [.int (nI i4), .int (nI 0)]) (x := (rf_ord (h 323) i4 0)) (h2 := h) C dX12_obeyed_24 k12_319 v_X12_ofOrder rfl rfl bn_322 sh_322 ⟨by decide, rfl⟩ (by decide) (Nat.zero_le _) (Nat.zero_le _) (Nat.le_of_ble_eq_true rfl) (c_X12_ofOrder hR i4 0 (show i4 < 10 from by omega) (show 0 < 2 from by omega)) ?_
        refine am_top (show (rf_ord (h 323) i4 0) = (nI (rf_nat (rf_ord (h 323) i4 0))) from (hV.2.2.2.1 i4 (by omega)).1.1) ?_
        refine am_iload_n (pc := 27) C dX12_obeyed_27 rfl ?_
        refine am_callVi (Y := mX12_firstOf) (pc := 28) (st := [.ref 322, .int (rf_ord (h 323) i4 1), .int (rf_set (fun o => decide (rf_ord (h 323) o 1 &&& (rf_usable (h 323) (rf_first (h 323) (rf_nat (rf_ord (h 323) o 0)) n) ^^^ (-1)) = 0)) i4)]) (As := [.int (nI (rf_nat (rf_ord (h 323) i4 0))), .int (nI n)]) (x := (rf_first (h 323) (rf_nat (rf_ord (h 323) i4 0)) n)) (h2 := h) C dX12_obeyed_28 k12_78 v_X12_firstOf rfl rfl bn_322 sh_322 ⟨by decide, rfl⟩ (by decide) (Nat.zero_le _) (Nat.zero_le _) (Nat.le_of_ble_eq_true rfl) (c_X12_firstOf hR (rf_nat (rf_ord (h 323) i4 0)) n (show (rf_nat (rf_ord (h 323) i4 0)) < rf_S (h 323) from by omega) (show rf_Is (h 323) (rf_nat (rf_ord (h 323) i4 0)) from (hV.2.1 (rf_nat (rf_ord (h 323) i4 0)) (by omega))) (show rf_Cn (h 323) from hV.1) hn) ?_
        refine am_callVi (Y := mX12_usable) (pc := 31) (st := [.int (rf_ord (h 323) i4 1), .int (rf_set (fun o => decide (rf_ord (h 323) o 1 &&& (rf_usable (h 323) (rf_first (h 323) (rf_nat (rf_ord (h 323) o 0)) n) ^^^ (-1)) = 0)) i4)]) (As := [.int (rf_first (h 323) (rf_nat (rf_ord (h 323) i4 0)) n)]) (x := (rf_usable (h 323) (rf_first (h 323) (rf_nat (rf_ord (h 323) i4 0)) n))) (h2 := h) C dX12_obeyed_31 k12_92 v_X12_usable rfl rfl bn_322 sh_322 ⟨by decide, rfl⟩ (by decide) (Nat.zero_le _) (Nat.zero_le _) (Nat.le_of_ble_eq_true rfl) (c_X12_usable hR (rf_first (h 323) (rf_nat (rf_ord (h 323) i4 0)) n) (show rf_Cn (h 323) from hV.1)) ?_
        refine am_iconst (pc := 34) (v := -1) C dX12_obeyed_34 rfl ?_
        refine am_ixor (pc := 35) C dX12_obeyed_35 ?_
        refine am_iand (pc := 36) C dX12_obeyed_36 ?_
        refine am_if_ne (pc := 37) (tgt := 46) C dX12_obeyed_37 (by decide) (fun q37 => ?_) (fun q37 => ?_)
        · skip
          refine am_iconstN (pc := 46) (k := 0) C dX12_obeyed_46 ?_
          refine am_ior (pc := 47) C dX12_obeyed_47 ?_
          refine am_istore_n (pc := 48) (ls' := [(0, .ref 322), (1, .int (nI n)), (2, .int ((rf_set (fun o => decide (rf_ord (h 323) o 1 &&& (rf_usable (h 323) (rf_first (h 323) (rf_nat (rf_ord (h 323) o 0)) n) ^^^ (-1)) = 0)) i4) ||| (nI 0))), (3, .int (nI i4))]) C dX12_obeyed_48 (by decide) rfl ?_
          refine am_iincN (pc := 49) (ls' := [(0, .ref 322), (1, .int (nI n)), (2, .int ((rf_set (fun o => decide (rf_ord (h 323) o 1 &&& (rf_usable (h 323) (rf_first (h 323) (rf_nat (rf_ord (h 323) o 0)) n) ^^^ (-1)) = 0)) i4) ||| (nI 0))), (3, .int (nI (i4 + 1)))]) C dX12_obeyed_49 rfl (am_up1 _) (by decide) rfl ?_
          refine am_goto (pc := 52) (tgt := 4) C dX12_obeyed_52 (by decide) ?_
          refine am_lsv (ls' := [(0, .ref 322), (1, .int (nI n)), (2, .int (rf_set (fun o => decide (rf_ord (h 323) o 1 &&& (rf_usable (h 323) (rf_first (h 323) (rf_nat (rf_ord (h 323) o 0)) n) ^^^ (-1)) = 0)) (i4 + 1))), (3, .int (nI (i4 + 1)))]) (by rw [show ((rf_set (fun o => decide (rf_ord (h 323) o 1 &&& (rf_usable (h 323) (rf_first (h 323) (rf_nat (rf_ord (h 323) o 0)) n) ^^^ (-1)) = 0)) i4) ||| (nI 0)) = (rf_set (fun o => decide (rf_ord (h 323) o 1 &&& (rf_usable (h 323) (rf_first (h 323) (rf_nat (rf_ord (h 323) o 0)) n) ^^^ (-1)) = 0)) (i4 + 1)) from (by first | exact rf_set_t (decide_eq_true q37) | exact rf_set_f (decide_eq_false q37))]) ?_
          exact ih4 (i4 + 1) (by omega) 
        · skip
          refine am_iconstN (pc := 40) (k := 1) C dX12_obeyed_40 ?_
          refine am_iload_n (pc := 41) C dX12_obeyed_41 rfl ?_
          refine am_ishl (pc := 42) C dX12_obeyed_42 ?_
          refine am_goto (pc := 43) (tgt := 47) C dX12_obeyed_43 (by decide) ?_
          refine am_ior (pc := 47) C dX12_obeyed_47 ?_
          refine am_istore_n (pc := 48) (ls' := [(0, .ref 322), (1, .int (nI n)), (2, .int ((rf_set (fun o => decide (rf_ord (h 323) o 1 &&& (rf_usable (h 323) (rf_first (h 323) (rf_nat (rf_ord (h 323) o 0)) n) ^^^ (-1)) = 0)) i4) ||| ((nI 1) <<< ((nI i4) &&& 31)))), (3, .int (nI i4))]) C dX12_obeyed_48 (by decide) rfl ?_
          refine am_iincN (pc := 49) (ls' := [(0, .ref 322), (1, .int (nI n)), (2, .int ((rf_set (fun o => decide (rf_ord (h 323) o 1 &&& (rf_usable (h 323) (rf_first (h 323) (rf_nat (rf_ord (h 323) o 0)) n) ^^^ (-1)) = 0)) i4) ||| ((nI 1) <<< ((nI i4) &&& 31)))), (3, .int (nI (i4 + 1)))]) C dX12_obeyed_49 rfl (am_up1 _) (by decide) rfl ?_
          refine am_goto (pc := 52) (tgt := 4) C dX12_obeyed_52 (by decide) ?_
          refine am_lsv (ls' := [(0, .ref 322), (1, .int (nI n)), (2, .int (rf_set (fun o => decide (rf_ord (h 323) o 1 &&& (rf_usable (h 323) (rf_first (h 323) (rf_nat (rf_ord (h 323) o 0)) n) ^^^ (-1)) = 0)) (i4 + 1))), (3, .int (nI (i4 + 1)))]) (by rw [show ((rf_set (fun o => decide (rf_ord (h 323) o 1 &&& (rf_usable (h 323) (rf_first (h 323) (rf_nat (rf_ord (h 323) o 0)) n) ^^^ (-1)) = 0)) i4) ||| ((nI 1) <<< ((nI i4) &&& 31))) = (rf_set (fun o => decide (rf_ord (h 323) o 1 &&& (rf_usable (h 323) (rf_first (h 323) (rf_nat (rf_ord (h 323) o 0)) n) ^^^ (-1)) = 0)) (i4 + 1)) from (by first | exact rf_set_t (decide_eq_true q37) | exact rf_set_f (decide_eq_false q37))]) ?_
          exact ih4 (i4 + 1) (by omega) 
  exact L4 (rf_O (h 323)) 0 (by omega) 

set_option maxHeartbeats 400000 in
set_option maxRecDepth 100000 in
theorem c_X12_inField {ad : Nat → Nat} {r : am_R} (hR : am_rs r) {h : am_H} (m : Int32) (hV : rf_I (h 323))  : am_CM mX12_inField 1 0 0 [.ref 322, .int m] (am_VV ad) r h (am_po (some (.int (nI (rf_inField (h 323) m)))) r h) := by
  refine am_CM.of (by decide +kernel) (Nat.le_of_ble_eq_true rfl) (fun X C T => ?_)
  show am_G X (am_VV ad) (0, 0) 0 [(0, .ref 322), (1, .int m)] [] r h
  have hF9 : rf_F (h 323) < 41 := hV.2.2.2.2.1.2.2.1.2
  refine am_iconstN (pc := 0) (k := 0) C dX12_inField_0 ?_
  refine am_istore_n (pc := 1) (ls' := [(0, .ref 322), (1, .int m), (2, .int (nI 0))]) C dX12_inField_1 (by decide) rfl ?_
  refine am_iconstN (pc := 2) (k := 0) C dX12_inField_2 ?_
  refine am_istore_n (pc := 3) (ls' := [(0, .ref 322), (1, .int m), (2, .int (nI 0)), (3, .int (nI 0))]) C dX12_inField_3 (by decide) rfl ?_
  have L4 : ∀ (j4 i4 : Nat), i4 + j4 = rf_F (h 323) → am_G X (am_VV ad) (0, 0) 4 [(0, .ref 322), (1, .int m), (2, .int (nI (rf_cnt (fun k => decide (rf_fld (h 323) k 0 = m)) i4))), (3, .int (nI i4))] [] r h := by
    intro j4
    induction j4 with
    | zero =>
      intro i4 hi4 
      obtain rfl : i4 = rf_F (h 323) := by omega
      refine am_iload_n (pc := 4) C dX12_inField_4 rfl ?_
      refine am_aload_n (pc := 5) C dX12_inField_5 rfl ?_
      refine am_getR (pc := 6) (j := 323) C dX12_inField_6 f12_13 bn_322 sh_322 (rf_322_1 hR) ?_
      refine am_bipush (pc := 9) (v := nI 6) C dX12_inField_9 (by decide) ?_
      refine am_iaload (pc := 11) C dX12_inField_11 bn_323 sh_323 (vp_in_nI (by omega) (by decide)) ?_
      refine am_top (show (h 323) (nI 6).toNatClampNeg = (h 323) 6 from by rw [nI_clamp (by omega)]) ?_
      refine am_top (show ((h 323) 6) = (nI (rf_F (h 323))) from hV.2.2.2.2.1.2.2.1.1) ?_
      refine am_icmp_geN (pc := 12) (tgt := 39) C dX12_inField_12 (by decide) (by omega) (by omega) (fun q12 => ?_) (fun q12 => ?_)
      · skip
        refine am_iload_n (pc := 39) C dX12_inField_39 rfl ?_
        exact am_ireti T dX12_inField_40 rfl (Nat.le_refl _) (Nat.le_refl _) rfl rfl rfl
      · skip
        exact absurd q12 (by omega)
    | succ j4 ih4 =>
      intro i4 hi4 
      have hl4 : i4 < rf_F (h 323) := by omega
      refine am_iload_n (pc := 4) C dX12_inField_4 rfl ?_
      refine am_aload_n (pc := 5) C dX12_inField_5 rfl ?_
      refine am_getR (pc := 6) (j := 323) C dX12_inField_6 f12_13 bn_322 sh_322 (rf_322_1 hR) ?_
      refine am_bipush (pc := 9) (v := nI 6) C dX12_inField_9 (by decide) ?_
      refine am_iaload (pc := 11) C dX12_inField_11 bn_323 sh_323 (vp_in_nI (by omega) (by decide)) ?_
      refine am_top (show (h 323) (nI 6).toNatClampNeg = (h 323) 6 from by rw [nI_clamp (by omega)]) ?_
      refine am_top (show ((h 323) 6) = (nI (rf_F (h 323))) from hV.2.2.2.2.1.2.2.1.1) ?_
      refine am_icmp_geN (pc := 12) (tgt := 39) C dX12_inField_12 (by decide) (by omega) (by omega) (fun q12 => ?_) (fun q12 => ?_)
      · skip
        exact absurd q12 (by omega)
      · skip
        refine am_iload_n (pc := 15) C dX12_inField_15 rfl ?_
        refine am_aload_n (pc := 16) C dX12_inField_16 rfl ?_
        refine am_iload_n (pc := 17) C dX12_inField_17 rfl ?_
        refine am_iconstN (pc := 18) (k := 0) C dX12_inField_18 ?_
        refine am_callVi (Y := mX12_ofField) (pc := 19) (st := [.int (nI (rf_cnt (fun k => decide (rf_fld (h 323) k 0 = m)) i4))]) (As := [.int (nI i4), .int (nI 0)]) (x := (rf_fld (h 323) i4 0)) (h2 := h) C dX12_inField_19 k12_301 v_X12_ofField rfl rfl bn_322 sh_322 ⟨by decide, rfl⟩ (by decide) (Nat.zero_le _) (Nat.zero_le _) (Nat.le_of_ble_eq_true rfl) (c_X12_ofField hR i4 0 (show i4 < 40 from by omega) (show 0 < 3 from by omega)) ?_
        refine am_iload_n (pc := 22) C dX12_inField_22 rfl ?_
        refine am_icmp_ne (pc := 23) (tgt := 30) C dX12_inField_23 (by decide) (fun q23 => ?_) (fun q23 => ?_)
        · skip
          refine am_iconstN (pc := 30) (k := 0) C dX12_inField_30 ?_
          refine am_iaddN (pc := 31) C dX12_inField_31 ?_
          refine am_istore_n (pc := 32) (ls' := [(0, .ref 322), (1, .int m), (2, .int (nI ((rf_cnt (fun k => decide (rf_fld (h 323) k 0 = m)) i4) + 0))), (3, .int (nI i4))]) C dX12_inField_32 (by decide) rfl ?_
          refine am_iincN (pc := 33) (ls' := [(0, .ref 322), (1, .int m), (2, .int (nI ((rf_cnt (fun k => decide (rf_fld (h 323) k 0 = m)) i4) + 0))), (3, .int (nI (i4 + 1)))]) C dX12_inField_33 rfl (am_up1 _) (by decide) rfl ?_
          refine am_goto (pc := 36) (tgt := 4) C dX12_inField_36 (by decide) ?_
          refine am_lsv (ls' := [(0, .ref 322), (1, .int m), (2, .int (nI (rf_cnt (fun k => decide (rf_fld (h 323) k 0 = m)) (i4 + 1)))), (3, .int (nI (i4 + 1)))]) (by rw [show (nI ((rf_cnt (fun k => decide (rf_fld (h 323) k 0 = m)) i4) + 0)) = (nI (rf_cnt (fun k => decide (rf_fld (h 323) k 0 = m)) (i4 + 1))) from (by first | exact rf_cnt_t (by simp [q12, q23]) | exact rf_cnt_f (by simp [q12, q23]))]) ?_
          exact ih4 (i4 + 1) (by omega) 
        · skip
          refine am_iconstN (pc := 26) (k := 1) C dX12_inField_26 ?_
          refine am_goto (pc := 27) (tgt := 31) C dX12_inField_27 (by decide) ?_
          refine am_iaddN (pc := 31) C dX12_inField_31 ?_
          refine am_istore_n (pc := 32) (ls' := [(0, .ref 322), (1, .int m), (2, .int (nI ((rf_cnt (fun k => decide (rf_fld (h 323) k 0 = m)) i4) + 1))), (3, .int (nI i4))]) C dX12_inField_32 (by decide) rfl ?_
          refine am_iincN (pc := 33) (ls' := [(0, .ref 322), (1, .int m), (2, .int (nI ((rf_cnt (fun k => decide (rf_fld (h 323) k 0 = m)) i4) + 1))), (3, .int (nI (i4 + 1)))]) C dX12_inField_33 rfl (am_up1 _) (by decide) rfl ?_
          refine am_goto (pc := 36) (tgt := 4) C dX12_inField_36 (by decide) ?_
          refine am_lsv (ls' := [(0, .ref 322), (1, .int m), (2, .int (nI (rf_cnt (fun k => decide (rf_fld (h 323) k 0 = m)) (i4 + 1)))), (3, .int (nI (i4 + 1)))]) (by rw [show (nI ((rf_cnt (fun k => decide (rf_fld (h 323) k 0 = m)) i4) + 1)) = (nI (rf_cnt (fun k => decide (rf_fld (h 323) k 0 = m)) (i4 + 1))) from (by first | exact rf_cnt_t (by simp [q12, q23]) | exact rf_cnt_f (by simp [q12, q23]))]) ?_
          exact ih4 (i4 + 1) (by omega) 
  exact L4 (rf_F (h 323)) 0 (by omega) 

set_option maxHeartbeats 400000 in
set_option maxRecDepth 100000 in
theorem c_X12_worthOf {ad : Nat → Nat} {r : am_R} (hR : am_rs r) {h : am_H} (set : Int32) (hC : rf_Cn (h 323))  : am_CM mX12_worthOf 1 0 0 [.ref 322, .int set] (am_VV ad) r h (am_po (some (.int (rf_worth (h 323) set (rf_M (h 323))))) r h) := by
  refine am_CM.of (by decide +kernel) (Nat.le_of_ble_eq_true rfl) (fun X C T => ?_)
  show am_G X (am_VV ad) (0, 0) 0 [(0, .ref 322), (1, .int set)] [] r h
  have hM9 : rf_M (h 323) < 17 := hC.1.2
  refine am_iconstN (pc := 0) (k := 0) C dX12_worthOf_0 ?_
  refine am_istore_n (pc := 1) (ls' := [(0, .ref 322), (1, .int set), (2, .int (nI 0))]) C dX12_worthOf_1 (by decide) rfl ?_
  refine am_iconstN (pc := 2) (k := 0) C dX12_worthOf_2 ?_
  refine am_istore_n (pc := 3) (ls' := [(0, .ref 322), (1, .int set), (2, .int (nI 0)), (3, .int (nI 0))]) C dX12_worthOf_3 (by decide) rfl ?_
  have L4 : ∀ (j4 i4 : Nat), i4 + j4 = rf_M (h 323) → am_G X (am_VV ad) (0, 0) 4 [(0, .ref 322), (1, .int set), (2, .int (rf_worth (h 323) set i4)), (3, .int (nI i4))] [] r h := by
    intro j4
    induction j4 with
    | zero =>
      intro i4 hi4 
      obtain rfl : i4 = rf_M (h 323) := by omega
      refine am_iload_n (pc := 4) C dX12_worthOf_4 rfl ?_
      refine am_aload_n (pc := 5) C dX12_worthOf_5 rfl ?_
      refine am_callVi (Y := mX12_memories) (pc := 6) (st := [.int (nI (rf_M (h 323)))]) (As := []) (x := (nI (rf_M (h 323)))) (h2 := h) C dX12_worthOf_6 k12_67 v_X12_memories rfl rfl bn_322 sh_322 ⟨by decide, rfl⟩ (by decide) (Nat.zero_le _) (Nat.zero_le _) (Nat.le_of_ble_eq_true rfl) (c_X12_memories hR hC) ?_
      refine am_icmp_geN (pc := 9) (tgt := 39) C dX12_worthOf_9 (by decide) (by omega) (by omega) (fun q9 => ?_) (fun q9 => ?_)
      · skip
        refine am_iload_n (pc := 39) C dX12_worthOf_39 rfl ?_
        exact am_ireti T dX12_worthOf_40 rfl (Nat.le_refl _) (Nat.le_refl _) rfl rfl rfl
      · skip
        exact absurd q9 (by omega)
    | succ j4 ih4 =>
      intro i4 hi4 
      have hl4 : i4 < rf_M (h 323) := by omega
      refine am_iload_n (pc := 4) C dX12_worthOf_4 rfl ?_
      refine am_aload_n (pc := 5) C dX12_worthOf_5 rfl ?_
      refine am_callVi (Y := mX12_memories) (pc := 6) (st := [.int (nI i4)]) (As := []) (x := (nI (rf_M (h 323)))) (h2 := h) C dX12_worthOf_6 k12_67 v_X12_memories rfl rfl bn_322 sh_322 ⟨by decide, rfl⟩ (by decide) (Nat.zero_le _) (Nat.zero_le _) (Nat.le_of_ble_eq_true rfl) (c_X12_memories hR hC) ?_
      refine am_icmp_geN (pc := 9) (tgt := 39) C dX12_worthOf_9 (by decide) (by omega) (by omega) (fun q9 => ?_) (fun q9 => ?_)
      · skip
        exact absurd q9 (by omega)
      · skip
        refine am_iload_n (pc := 12) C dX12_worthOf_12 rfl ?_
        refine am_iload_n (pc := 13) C dX12_worthOf_13 rfl ?_
        refine am_iload_n (pc := 14) C dX12_worthOf_14 rfl ?_
        refine am_callSi (Y := mX12_has) (pc := 15) (st := [.int (rf_worth (h 323) set i4)]) (As := [.int set, .int (nI i4)]) (x := (am_b (am_bt set i4))) (h2 := h) C dX12_worthOf_15 k12_81 v_X12_has rfl rfl (by decide) (Nat.zero_le _) (Nat.zero_le _) (Nat.le_of_ble_eq_true rfl) (c_X12_has hR set i4 (show i4 < 32 from by omega)) ?_
        refine am_if_eqB (pc := 18) (tgt := 30) C dX12_worthOf_18 (by decide) (fun q18 => ?_) (fun q18 => ?_)
        · skip
          refine am_iconstN (pc := 30) (k := 0) C dX12_worthOf_30 ?_
          refine am_iadd (pc := 31) C dX12_worthOf_31 ?_
          refine am_istore_n (pc := 32) (ls' := [(0, .ref 322), (1, .int set), (2, .int ((rf_worth (h 323) set i4) + (nI 0))), (3, .int (nI i4))]) C dX12_worthOf_32 (by decide) rfl ?_
          refine am_iincN (pc := 33) (ls' := [(0, .ref 322), (1, .int set), (2, .int ((rf_worth (h 323) set i4) + (nI 0))), (3, .int (nI (i4 + 1)))]) C dX12_worthOf_33 rfl (am_up1 _) (by decide) rfl ?_
          refine am_goto (pc := 36) (tgt := 4) C dX12_worthOf_36 (by decide) ?_
          refine am_lsv (ls' := [(0, .ref 322), (1, .int set), (2, .int (rf_worth (h 323) set (i4 + 1))), (3, .int (nI (i4 + 1)))]) (by rw [show ((rf_worth (h 323) set i4) + (nI 0)) = (rf_worth (h 323) set (i4 + 1)) from (by rw [rf_worth]; simp [q9, q18])]) ?_
          exact ih4 (i4 + 1) (by omega) 
        · skip
          refine am_aload_n (pc := 21) C dX12_worthOf_21 rfl ?_
          refine am_iload_n (pc := 22) C dX12_worthOf_22 rfl ?_
          refine am_iconstN (pc := 23) (k := 0) C dX12_worthOf_23 ?_
          refine am_callVi (Y := mX12_ofMemory) (pc := 24) (st := [.int (rf_worth (h 323) set i4)]) (As := [.int (nI i4), .int (nI 0)]) (x := (rf_mem (h 323) i4 0)) (h2 := h) C dX12_worthOf_24 k12_85 v_X12_ofMemory rfl rfl bn_322 sh_322 ⟨by decide, rfl⟩ (by decide) (Nat.zero_le _) (Nat.zero_le _) (Nat.le_of_ble_eq_true rfl) (c_X12_ofMemory hR i4 0 (show i4 < 16 from by omega) (show 0 < 3 from by omega)) ?_
          refine am_goto (pc := 27) (tgt := 31) C dX12_worthOf_27 (by decide) ?_
          refine am_iadd (pc := 31) C dX12_worthOf_31 ?_
          refine am_istore_n (pc := 32) (ls' := [(0, .ref 322), (1, .int set), (2, .int ((rf_worth (h 323) set i4) + (rf_mem (h 323) i4 0))), (3, .int (nI i4))]) C dX12_worthOf_32 (by decide) rfl ?_
          refine am_iincN (pc := 33) (ls' := [(0, .ref 322), (1, .int set), (2, .int ((rf_worth (h 323) set i4) + (rf_mem (h 323) i4 0))), (3, .int (nI (i4 + 1)))]) C dX12_worthOf_33 rfl (am_up1 _) (by decide) rfl ?_
          refine am_goto (pc := 36) (tgt := 4) C dX12_worthOf_36 (by decide) ?_
          refine am_lsv (ls' := [(0, .ref 322), (1, .int set), (2, .int (rf_worth (h 323) set (i4 + 1))), (3, .int (nI (i4 + 1)))]) (by rw [show ((rf_worth (h 323) set i4) + (rf_mem (h 323) i4 0)) = (rf_worth (h 323) set (i4 + 1)) from (by rw [rf_worth]; simp [q9, q18])]) ?_
          exact ih4 (i4 + 1) (by omega) 
  exact L4 (rf_M (h 323)) 0 (by omega) 

