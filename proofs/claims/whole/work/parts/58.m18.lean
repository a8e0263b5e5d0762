/-! THE CLASS: rows, lore, what is asked of a world -/
section M18
theorem rf_or_n0 (x : Int32) : x ||| nI 0 = x := am_ext (fun k _ => by rw [am_bt_or, am_bt_n0, Bool.or_false])
theorem rf_set_n {p : Nat → Bool} {n : Nat} (h : p n = false) : rf_set p n = rf_set p (n + 1) := by rw [rf_set, if_neg (by rw [h]; exact Bool.false_ne_true), rf_or_n0]
theorem am_lo_and {x y : Int32} {n : Nat} (h : am_lo x n) : am_lo (x &&& y) n := fun k hk => by rw [am_bt_and, h k hk]; rfl
def rf_roots (w : rf_W) (set : Int32) : Int32 := rf_set (fun m => am_bt set m && decide (rf_mem w m 1 = 0)) (rf_M w)
def rf_ui (w : rf_W) (side : Int32) : Nat → Int32
  | 0 => nI 0
  | s + 1 => rf_ui w side s + (if rf_of w s 0 = side then rf_pc (rf_use w s) else nI 0)
theorem am_neg_bt {x : Int32} : x < 0 ↔ am_bt x 31 = true := by
  rw [Int32.lt_iff_toInt_lt]
  show x.toInt < 0 ↔ x.toBitVec.getLsbD 31 = true
  rw [show x.toInt = x.toBitVec.toInt from rfl, BitVec.toInt_neg_iff]
  rw [show x.toBitVec.getLsbD 31 = x.toBitVec.msb from (BitVec.msb_eq_getLsbD_last _).symm, BitVec.msb_eq_decide, decide_eq_true_eq]
  show 2 ^ 32 ≤ 2 * x.toBitVec.toNat ↔ 2147483648 ≤ x.toBitVec.toNat
  omega
theorem rf_fmod_md (x : Int32) {n : Nat} (h0 : 0 < n) (hn : n < 1000) : rf_fmod x (nI n) = nI (rf_md x n) := by
  have hrt := rf_rem_toInt x h0 (by omega)
  have hmd := rf_md_lt x h0
  have e0 := Int.emod_nonneg x.toInt (b := n) (by omega)
  have hb31 : am_bt (nI n) 31 = false := by
    rw [am_bt_nI (by decide)]
    exact Nat.testBit_lt_two_pow (by omega)
  have hsgn : (0 ≤ x ^^^ nI n) ↔ 0 ≤ x := by
    rw [← Int32.not_lt, ← Int32.not_lt, am_neg_bt, am_neg_bt]
    have : am_bt (x ^^^ nI n) 31 = (am_bt x 31 ^^ am_bt (nI n) 31) := by simp [am_bt]
    rw [this, hb31, Bool.xor_false]
  have hx0 : 0 ≤ x ↔ 0 ≤ x.toInt := by rw [Int32.le_iff_toInt_le]; exact Iff.rfl
  have hrem : x - x / nI n * nI n = rf_rem x (nI n) := rfl
  rw [rf_fmod, hrem]
  have hy : (nI n).toInt = (n : Int) := nI_toInt (by omega)
  have hb1 : x.toInt.tmod n < n := Int.tmod_lt_of_pos _ (by omega)
  have hb2 : -(n : Int) < x.toInt.tmod n := by
    have := Int.tmod_lt_of_pos (-x.toInt) (b := n) (by omega)
    rw [Int.neg_tmod] at this
    omega
  have hz : rf_rem x (nI n) = 0 ↔ x.toInt.tmod n = 0 := by
    rw [← Int32.toInt_inj, hrt]; exact Iff.rfl
  have hmdi : ((rf_md x n : Nat) : Int) = x.toInt % n := by rw [rf_md]; omega
  by_cases hp : 0 ≤ x
  · rw [if_neg (fun z => z.1 (hsgn.mpr hp))]
    apply Int32.toInt_inj.mp
    rw [hrt, nI_toInt (by omega), hmdi]
    exact Int.tmod_eq_emod_of_nonneg (hx0.mp hp)
  · have hneg : x.toInt < 0 := by
      have hq : ¬ 0 ≤ x.toInt := fun z => hp (hx0.mpr z)
      omega
    have hcong : (x.toInt.tmod n - x.toInt) % n = 0 := by
      have := Int.mul_tdiv_add_tmod x.toInt n
      rw [show x.toInt.tmod n - x.toInt = n * (-(x.toInt.tdiv n)) by rw [Int.mul_neg]; omega]
      exact Int.mul_emod_right _ _
    have hem : x.toInt.tmod n % n = x.toInt % n := Int.emod_eq_emod_iff_emod_sub_eq_zero.mpr hcong
    have hle : x.toInt.tmod n ≤ 0 := by
      have := Int.tmod_nonneg (n : Int) (show 0 ≤ -x.toInt by omega)
      rw [Int.neg_tmod] at this
      omega
    by_cases h9 : rf_rem x (nI n) = 0
    · rw [if_neg (fun z => z.2 h9)]
      apply Int32.toInt_inj.mp
      rw [hrt, nI_toInt (by omega), hmdi, ← hem, hz.mp h9]
      rfl
    · rw [if_pos ⟨fun z => hp (hsgn.mp z), h9⟩]
      have hne : x.toInt.tmod n ≠ 0 := fun z => h9 (hz.mpr z)
      apply Int32.toInt_inj.mp
      rw [Int32.toInt_add, hrt, hy, nI_toInt (by omega), hmdi, ← hem]
      have e5 : (x.toInt.tmod n + n) % n = x.toInt.tmod n + n := Int.emod_eq_of_lt (by omega) (by omega)
      rw [← Int.add_emod_right (x.toInt.tmod n) n, e5]
      apply Int.bmod_eq_of_le <;> omega
end M18

set_option maxHeartbeats 400000 in
set_option maxRecDepth 100000 in
theorem c_X11_pick {ad : Nat → Nat} {r : am_R} {h : am_H} (b : Nat) (k : Nat) (n : Nat) (hb : b < am_NN) (hs : am_SH b = (1, n)) (hk : k < n) (hn : n < 2147483648)  : am_CM mX11_pick 0 0 0 [.ref b, .int (nI k)] (am_VV ad) r h (am_po (some (.int (h b k))) r h) := by
  refine am_CM.of (by decide +kernel) (Nat.le_of_ble_eq_true rfl) (fun X C T => ?_)
  show am_G X (am_VV ad) (0, 0) 0 [(0, .ref b), (1, .int (nI k))] [] r h
  refine am_iload_n (pc := 0) C dX11_pick_0 rfl ?_
  refine am_if_ltN (pc := 1) (tgt := 16) C dX11_pick_1 (by decide) (by omega) ?_
  refine am_iload_n (pc := 4) C dX11_pick_4 rfl ?_
  refine am_aload_n (pc := 5) C dX11_pick_5 rfl ?_
  refine am_len1 (pc := 6) (v := nI n) C dX11_pick_6 hb hs rfl ?_
  refine am_icmp_geN (pc := 7) (tgt := 16) C dX11_pick_7 (by decide) (by omega) (by omega) (fun q7 => ?_) (fun q7 => ?_)
  · skip
    exact absurd q7 (by omega)
  · skip
    refine am_aload_n (pc := 10) C dX11_pick_10 rfl ?_
    refine am_iload_n (pc := 11) C dX11_pick_11 rfl ?_
    refine am_iaload (pc := 12) C dX11_pick_12 hb hs (vp_in_nI (by omega) (by omega)) ?_
    refine am_top (show (h b) (nI k).toNatClampNeg = (h b) k from by rw [nI_clamp (by omega)]) ?_
    refine am_goto (pc := 13) (tgt := 17) C dX11_pick_13 (by decide) ?_
    exact am_ireti T dX11_pick_17 rfl (Nat.le_refl _) (Nat.le_refl _) rfl rfl rfl

set_option maxHeartbeats 400000 in
set_option maxRecDepth 100000 in
theorem c_X11_put {ad : Nat → Nat} {r : am_R} {h : am_H} (b : Nat) (k : Nat) (v : Int32) (n : Nat) (hb : b < am_NN) (hs : am_SH b = (1, n)) (hk : k < n) (hn : n < 2147483648)  : am_CM mX11_put 0 0 0 [.ref b, .int (nI k), .int v] (am_VV ad) r h (am_po none r (am_row h b (upd (h b) k v))) := by
  refine am_CM.of (by decide +kernel) (Nat.le_of_ble_eq_true rfl) (fun X C T => ?_)
  show am_G X (am_VV ad) (0, 0) 0 [(0, .ref b), (1, .int (nI k)), (2, .int v)] [] r h
  refine am_iload_n (pc := 0) C dX11_put_0 rfl ?_
  refine am_if_ltN (pc := 1) (tgt := 14) C dX11_put_1 (by decide) (by omega) ?_
  refine am_iload_n (pc := 4) C dX11_put_4 rfl ?_
  refine am_aload_n (pc := 5) C dX11_put_5 rfl ?_
  refine am_len1 (pc := 6) (v := nI n) C dX11_put_6 hb hs rfl ?_
  refine am_icmp_geN (pc := 7) (tgt := 14) C dX11_put_7 (by decide) (by omega) (by omega) (fun q7 => ?_) (fun q7 => ?_)
  · skip
    exact absurd q7 (by omega)
  · skip
    refine am_aload_n (pc := 10) C dX11_put_10 rfl ?_
    refine am_iload_n (pc := 11) C dX11_put_11 rfl ?_
    refine am_iload_n (pc := 12) C dX11_put_12 rfl ?_
    refine am_iastore (pc := 13) C dX11_put_13 hb hs (vp_in_nI (by omega) (by omega)) ?_
    refine am_hp (show am_up h b (nI k).toNatClampNeg v = am_row h b (upd (h b) k v) from by rw [nI_clamp (by omega)]; exact am_up_rw _ _ _ _) ?_
    exact am_vretv T dX11_put_14 rfl (Nat.le_refl _) (Nat.le_refl _) rfl rfl

set_option maxHeartbeats 400000 in
set_option maxRecDepth 100000 in
theorem c_X11_has {ad : Nat → Nat} {r : am_R} {h : am_H} (set : Int32) (k : Nat) (hk : k < 32)  : am_CM mX11_has 0 0 0 [.int set, .int (nI k)] (am_VV ad) r h (am_po (some (.int (am_b (am_bt set k)))) r h) := by
  refine am_CM.of (by decide +kernel) (Nat.le_of_ble_eq_true rfl) (fun X C T => ?_)
  show am_G X (am_VV ad) (0, 0) 0 [(0, .int set), (1, .int (nI k))] [] r h
  refine am_iload_n (pc := 0) C dX11_has_0 rfl ?_
  refine am_iload_n (pc := 1) C dX11_has_1 rfl ?_
  refine am_ishr (pc := 2) C dX11_has_2 ?_
  refine am_iconstN (pc := 3) (k := 1) C dX11_has_3 ?_
  refine am_iand (pc := 4) C dX11_has_4 ?_
  refine am_if_eq (pc := 5) (tgt := 12) C dX11_has_5 (by decide) (fun q5 => ?_) (fun q5 => ?_)
  · skip
    refine am_iconstN (pc := 12) (k := 0) C dX11_has_12 ?_
    exact am_iretb T dX11_has_13 rfl (Nat.le_refl _) (Nat.le_refl _) (by rw [(am_has0 set hk).mp q5]; rfl) rfl rfl
  · skip
    refine am_iconstN (pc := 8) (k := 1) C dX11_has_8 ?_
    refine am_goto (pc := 9) (tgt := 13) C dX11_has_9 (by decide) ?_
    exact am_iretb T dX11_has_13 rfl (Nat.le_refl _) (Nat.le_refl _) (by rw [show am_bt set k = true from (Bool.not_eq_false _).mp (fun z => q5 ((am_has0 set hk).mpr z))]; rfl) rfl rfl

set_option maxHeartbeats 400000 in
set_option maxRecDepth 100000 in
theorem c_X3_usableOf {ad : Nat → Nat} {r : am_R} (hR : am_rs r) {h : am_H} (known : Int32) (w : rf_W) (hV : rf_I w) (hLo : cl_Lo (h) 4 w)  : am_CM mX3_usableOf 1 0 0 [.ref 4, .int known] (am_VV ad) r h (am_po (some (.int (rf_usable w known))) r h) := by
  refine am_CM.of (by decide +kernel) (Nat.le_of_ble_eq_true rfl) (fun X C T => ?_)
  show am_G X (am_VV ad) (0, 0) 0 [(0, .ref 4), (1, .int known)] [] r h
  have hM9 : rf_M w < 17 := hV.1.1.2
  have hS9 : rf_S w < 11 := hV.1.2.1.2
  have hO9 : rf_O w < 11 := hV.1.2.2.2
  refine am_iconstN (pc := 0) (k := 0) C dX3_usableOf_0 ?_
  refine am_istore_n (pc := 1) (ls' := [(0, .ref 4), (1, .int known), (2, .int (nI 0))]) C dX3_usableOf_1 (by decide) rfl ?_
  refine am_iconstN (pc := 2) (k := 0) C dX3_usableOf_2 ?_
  refine am_istore_n (pc := 3) (ls' := [(0, .ref 4), (1, .int known), (2, .int (nI 0)), (3, .int (nI 0))]) C dX3_usableOf_3 (by decide) rfl ?_
  have L4 : ∀ (j4 i4 : Nat), i4 + j4 = rf_M w → am_G X (am_VV ad) (0, 0) 4 [(0, .ref 4), (1, .int known), (2, .int (rf_set (fun m => am_bt known m && decide (rf_bears w m &&& (known ^^^ (-1)) = 0)) i4)), (3, .int (nI i4))] [] r h := by
    intro j4
    induction j4 with
    | zero =>
      intro i4 hi4 
      obtain rfl : i4 = rf_M w := by omega
      refine am_iload_n (pc := 4) C dX3_usableOf_4 rfl ?_
      refine am_aload_n (pc := 5) C dX3_usableOf_5 rfl ?_
      refine am_getI (pc := 6) C dX3_usableOf_6 f3_52 bn_4 sh_4 ?_
      refine am_top (show ((h 4) 1) = (nI (rf_M w)) from (hLo.1.2.1.trans hV.1.1.1)) ?_
      refine am_icmp_geN (pc := 9) (tgt := 47) C dX3_usableOf_9 (by decide) (by omega) (by omega) (fun q9 => ?_) (fun q9 => ?_)
      · skip
        refine am_iload_n (pc := 47) C dX3_usableOf_47 rfl ?_
        exact am_ireti T dX3_usableOf_48 rfl (Nat.le_refl _) (Nat.le_refl _) (rf_us2_eq hV) rfl rfl
      · skip
        exact absurd q9 (by omega)
    | succ j4 ih4 =>
      intro i4 hi4 
      have hl4 : i4 < rf_M w := by omega
      refine am_iload_n (pc := 4) C dX3_usableOf_4 rfl ?_
      refine am_aload_n (pc := 5) C dX3_usableOf_5 rfl ?_
      refine am_getI (pc := 6) C dX3_usableOf_6 f3_52 bn_4 sh_4 ?_
      refine am_top (show ((h 4) 1) = (nI (rf_M w)) from (hLo.1.2.1.trans hV.1.1.1)) ?_
      refine am_icmp_geN (pc := 9) (tgt := 47) C dX3_usableOf_9 (by decide) (by omega) (by omega) (fun q9 => ?_) (fun q9 => ?_)
      · skip
        exact absurd q9 (by omega)
      · skip
        refine am_iload_n (pc := 12) C dX3_usableOf_12 rfl ?_
        refine am_iload_n (pc := 13) C dX3_usableOf_13 rfl ?_
        refine am_callSNi (Y := mX11_has) (pc := 14) (st := []) (As := [.int known, .int (nI i4)]) (x := (am_b (am_bt known i4))) (h2 := h) C dX3_usableOf_14 k3_65 v_X11_has rfl rfl (by decide) (Nat.zero_le _) (Nat.zero_le _) (Nat.le_of_ble_eq_true rfl) (c_X11_has known i4 (show i4 < 32 from by omega)) ?_
        refine am_if_eqB (pc := 17) (tgt := 41) C dX3_usableOf_17 (by decide) (fun q17 => ?_) (fun q17 => ?_)
        · skip
          refine am_iincN (pc := 41) (ls' := [(0, .ref 4), (1, .int known), (2, .int (rf_set (fun m => am_bt known m && decide (rf_bears w m &&& (known ^^^ (-1)) = 0)) i4)), (3, .int (nI (i4 + 1)))]) C dX3_usableOf_41 rfl (am_up1 _) (by decide) rfl ?_
          refine am_goto (pc := 44) (tgt := 4) C dX3_usableOf_44 (by decide) ?_
          refine am_lsv (ls' := [(0, .ref 4), (1, .int known), (2, .int (rf_set (fun m => am_bt known m && decide (rf_bears w m &&& (known ^^^ (-1)) = 0)) (i4 + 1))), (3, .int (nI (i4 + 1)))]) (by rw [show (rf_set (fun m => am_bt known m && decide (rf_bears w m &&& (known ^^^ (-1)) = 0)) i4) = (rf_set (fun m => am_bt known m && decide (rf_bears w m &&& (known ^^^ (-1)) = 0)) (i4 + 1)) from rf_set_n (by show (_ && _) = false; rw [q17]; rfl)]) ?_
          exact ih4 (i4 + 1) (by omega) 
        · skip
          refine am_aload_n (pc := 20) C dX3_usableOf_20 rfl ?_
          refine am_getR (pc := 21) (j := 7) C dX3_usableOf_21 f3_18 bn_4 sh_4 (rf_4_6 hR) ?_
          refine am_iload_n (pc := 24) C dX3_usableOf_24 rfl ?_
          refine am_callSNi (Y := mX11_pick) (pc := 25) (st := []) (As := [.ref 7, .int (nI i4)]) (x := ((h 7) i4)) (h2 := h) C dX3_usableOf_25 k3_69 v_X11_pick rfl rfl (by decide) (Nat.zero_le _) (Nat.zero_le _) (Nat.le_of_ble_eq_true rfl) (c_X11_pick 7 i4 16 bn_7 sh_7 (show i4 < 16 from by omega) (by decide)) ?_
          refine am_top (show ((h 7) i4) = (rf_bears w i4) from (hLo.2.1 i4 (by omega)).2.2.1) ?_
          refine am_iload_n (pc := 28) C dX3_usableOf_28 rfl ?_
          refine am_iconst (pc := 29) (v := -1) C dX3_usableOf_29 rfl ?_
          refine am_ixor (pc := 30) C dX3_usableOf_30 ?_
          refine am_iand (pc := 31) C dX3_usableOf_31 ?_
          refine am_if_ne (pc := 32) (tgt := 41) C dX3_usableOf_32 (by decide) (fun q30 => ?_) (fun q30 => ?_)
          · skip
            refine am_iincN (pc := 41) (ls' := [(0, .ref 4), (1, .int known), (2, .int (rf_set (fun m => am_bt known m && decide (rf_bears w m &&& (known ^^^ (-1)) = 0)) i4)), (3, .int (nI (i4 + 1)))]) C dX3_usableOf_41 rfl (am_up1 _) (by decide) rfl ?_
            refine am_goto (pc := 44) (tgt := 4) C dX3_usableOf_44 (by decide) ?_
            refine am_lsv (ls' := [(0, .ref 4), (1, .int known), (2, .int (rf_set (fun m => am_bt known m && decide (rf_bears w m &&& (known ^^^ (-1)) = 0)) (i4 + 1))), (3, .int (nI (i4 + 1)))]) (by rw [show (rf_set (fun m => am_bt known m && decide (rf_bears w m &&& (known ^^^ (-1)) = 0)) i4) = (rf_set (fun m => am_bt known m && decide (rf_bears w m &&& (known ^^^ (-1)) = 0)) (i4 + 1)) from rf_set_n (by show (_ && _) = false; rw [q17, decide_eq_false q30]; rfl)]) ?_
            exact ih4 (i4 + 1) (by omega) 
          · skip
            refine am_iload_n (pc := 35) C dX3_usableOf_35 rfl ?_
            refine am_iconstN (pc := 36) (k := 1) C dX3_usableOf_36 ?_
            refine am_iload_n (pc := 37) C dX3_usableOf_37 rfl ?_
            refine am_ishl (pc := 38) C dX3_usableOf_38 ?_
            refine am_ior (pc := 39) C dX3_usableOf_39 ?_
            refine am_istore_n (pc := 40) (ls' := [(0, .ref 4), (1, .int known), (2, .int ((rf_set (fun m => am_bt known m && decide (rf_bears w m &&& (known ^^^ (-1)) = 0)) i4) ||| ((nI 1) <<< ((nI i4) &&& 31)))), (3, .int (nI i4))]) C dX3_usableOf_40 (by decide) rfl ?_
            refine am_iincN (pc := 41) (ls' := [(0, .ref 4), (1, .int known), (2, .int ((rf_set (fun m => am_bt known m && decide (rf_bears w m &&& (known ^^^ (-1)) = 0)) i4) ||| ((nI 1) <<< ((nI i4) &&& 31)))), (3, .int (nI (i4 + 1)))]) C dX3_usableOf_41 rfl (am_up1 _) (by decide) rfl ?_
            refine am_goto (pc := 44) (tgt := 4) C dX3_usableOf_44 (by decide) ?_
            refine am_lsv (ls' := [(0, .ref 4), (1, .int known), (2, .int (rf_set (fun m => am_bt known m && decide (rf_bears w m &&& (known ^^^ (-1)) = 0)) (i4 + 1))), (3, .int (nI (i4 + 1)))]) (by rw [show ((rf_set (fun m => am_bt known m && decide (rf_bears w m &&& (known ^^^ (-1)) = 0)) i4) ||| ((nI 1) <<< ((nI i4) &&& 31))) = (rf_set (fun m => am_bt known m && decide (rf_bears w m &&& (known ^^^ (-1)) = 0)) (i4 + 1)) from rf_set_t (by show (_ && _) = true; rw [q17, decide_eq_true q30]; rfl)]) ?_
            exact ih4 (i4 + 1) (by omega) 
  exact L4 (rf_M w) 0 (by omega) 

set_option maxHeartbeats 400000 in
set_option maxRecDepth 100000 in
theorem c_X3_worthOf {ad : Nat → Nat} {r : am_R} (hR : am_rs r) {h : am_H} (set : Int32) (w : rf_W) (hV : rf_I w) (hLo : cl_Lo (h) 4 w)  : am_CM mX3_worthOf 1 0 0 [.ref 4, .int set] (am_VV ad) r h (am_po (some (.int (rf_worth w set (rf_M w)))) r h) := by
  refine am_CM.of (by decide +kernel) (Nat.le_of_ble_eq_true rfl) (fun X C T => ?_)
  show am_G X (am_VV ad) (0, 0) 0 [(0, .ref 4), (1, .int set)] [] r h
  have hM9 : rf_M w < 17 := hV.1.1.2
  have hS9 : rf_S w < 11 := hV.1.2.1.2
  have hO9 : rf_O w < 11 := hV.1.2.2.2
  refine am_iconstN (pc := 0) (k := 0) C dX3_worthOf_0 ?_
  refine am_istore_n (pc := 1) (ls' := [(0, .ref 4), (1, .int set), (2, .int (nI 0))]) C dX3_worthOf_1 (by decide) rfl ?_
  refine am_iconstN (pc := 2) (k := 0) C dX3_worthOf_2 ?_
  refine am_istore_n (pc := 3) (ls' := [(0, .ref 4), (1, .int set), (2, .int (nI 0)), (3, .int (nI 0))]) C dX3_worthOf_3 (by decide) rfl ?_
  have L4 : ∀ (j4 i4 : Nat), i4 + j4 = rf_M w → am_G X (am_VV ad) (0, 0) 4 [(0, .ref 4), (1, .int set), (2, .int (rf_worth w set i4)), (3, .int (nI i4))] [] r h := by
    intro j4
    induction j4 with
    | zero =>
      intro i4 hi4 
      obtain rfl : i4 = rf_M w := by omega
      refine am_iload_n (pc := 4) C dX3_worthOf_4 rfl ?_
      refine am_aload_n (pc := 5) C dX3_worthOf_5 rfl ?_
      refine am_getI (pc := 6) C dX3_worthOf_6 f3_52 bn_4 sh_4 ?_
      refine am_top (show ((h 4) 1) = (nI (rf_M w)) from (hLo.1.2.1.trans hV.1.1.1)) ?_
      refine am_icmp_geN (pc := 9) (tgt := 37) C dX3_worthOf_9 (by decide) (by omega) (by omega) (fun q9 => ?_) (fun q9 => ?_)
      · skip
        refine am_iload_n (pc := 37) C dX3_worthOf_37 rfl ?_
        exact am_ireti T dX3_worthOf_38 rfl (Nat.le_refl _) (Nat.le_refl _) rfl rfl rfl
      · skip
        exact absurd q9 (by omega)
    | succ j4 ih4 =>
      intro i4 hi4 
      have hl4 : i4 < rf_M w := by omega
      refine am_iload_n (pc := 4) C dX3_worthOf_4 rfl ?_
      refine am_aload_n (pc := 5) C dX3_worthOf_5 rfl ?_
      refine am_getI (pc := 6) C dX3_worthOf_6 f3_52 bn_4 sh_4 ?_
      refine am_top (show ((h 4) 1) = (nI (rf_M w)) from (hLo.1.2.1.trans hV.1.1.1)) ?_
      refine am_icmp_geN (pc := 9) (tgt := 37) C dX3_worthOf_9 (by decide) (by omega) (by omega) (fun q9 => ?_) (fun q9 => ?_)
      · skip
        exact absurd q9 (by omega)
      · skip
        refine am_iload_n (pc := 12) C dX3_worthOf_12 rfl ?_
        refine am_iload_n (pc := 13) C dX3_worthOf_13 rfl ?_
        refine am_callSNi (Y := mX11_has) (pc := 14) (st := []) (As := [.int set, .int (nI i4)]) (x := (am_b (am_bt set i4))) (h2 := h) C dX3_worthOf_14 k3_65 v_X11_has rfl rfl (by decide) (Nat.zero_le _) (Nat.zero_le _) (Nat.le_of_ble_eq_true rfl) (c_X11_has set i4 (show i4 < 32 from by omega)) ?_
        refine am_if_eqB (pc := 17) (tgt := 31) C dX3_worthOf_17 (by decide) (fun q17 => ?_) (fun q17 => ?_)
        · skip
          refine am_iincN (pc := 31) (ls' := [(0, .ref 4), (1, .int set), (2, .int (rf_worth w set i4)), (3, .int (nI (i4 + 1)))]) C dX3_worthOf_31 rfl (am_up1 _) (by decide) rfl ?_
          refine am_goto (pc := 34) (tgt := 4) C dX3_worthOf_34 (by decide) ?_
          refine am_lsv (ls' := [(0, .ref 4), (1, .int set), (2, .int (rf_worth w set (i4 + 1))), (3, .int (nI (i4 + 1)))]) (by rw [show (rf_worth w set i4) = (rf_worth w set (i4 + 1)) from (by rw [rf_worth, if_neg (by rw [q17]; exact Bool.false_ne_true)]; exact (Int32.add_zero _).symm)]) ?_
          exact ih4 (i4 + 1) (by omega) 
        · skip
          refine am_iload_n (pc := 20) C dX3_worthOf_20 rfl ?_
          refine am_aload_n (pc := 21) C dX3_worthOf_21 rfl ?_
          refine am_getR (pc := 22) (j := 5) C dX3_worthOf_22 f3_9 bn_4 sh_4 (rf_4_4 hR) ?_
          refine am_iload_n (pc := 25) C dX3_worthOf_25 rfl ?_
          refine am_callSNi (Y := mX11_pick) (pc := 26) (st := [.int (rf_worth w set i4)]) (As := [.ref 5, .int (nI i4)]) (x := ((h 5) i4)) (h2 := h) C dX3_worthOf_26 k3_69 v_X11_pick rfl rfl (by decide) (Nat.zero_le _) (Nat.zero_le _) (Nat.le_of_ble_eq_true rfl) (c_X11_pick 5 i4 16 bn_5 sh_5 (show i4 < 16 from by omega) (by decide)) ?_
          refine am_top (show ((h 5) i4) = (rf_mem w i4 0) from (hLo.2.1 i4 (by omega)).1) ?_
          refine am_iadd (pc := 29) C dX3_worthOf_29 ?_
          refine am_istore_n (pc := 30) (ls' := [(0, .ref 4), (1, .int set), (2, .int ((rf_worth w set i4) + (rf_mem w i4 0))), (3, .int (nI i4))]) C dX3_worthOf_30 (by decide) rfl ?_
          refine am_iincN (pc := 31) (ls' := [(0, .ref 4), (1, .int set), (2, .int ((rf_worth w set i4) + (rf_mem w i4 0))), (3, .int (nI (i4 + 1)))]) C dX3_worthOf_31 rfl (am_up1 _) (by decide) rfl ?_
          refine am_goto (pc := 34) (tgt := 4) C dX3_worthOf_34 (by decide) ?_
          refine am_lsv (ls' := [(0, .ref 4), (1, .int set), (2, .int (rf_worth w set (i4 + 1))), (3, .int (nI (i4 + 1)))]) (by rw [show ((rf_worth w set i4) + (rf_mem w i4 0)) = (rf_worth w set (i4 + 1)) from (by rw [rf_worth, if_pos q17])]) ?_
          exact ih4 (i4 + 1) (by omega) 
  exact L4 (rf_M w) 0 (by omega) 

set_option maxHeartbeats 400000 in
set_option maxRecDepth 100000 in
theorem c_X3_rootsIn {ad : Nat → Nat} {r : am_R} (hR : am_rs r) {h : am_H} (set : Int32) (w : rf_W) (hV : rf_I w) (hLo : cl_Lo (h) 4 w)  : am_CM mX3_rootsIn 1 0 0 [.ref 4, .int set] (am_VV ad) r h (am_po (some (.int (rf_roots w set))) r h) := by
  refine am_CM.of (by decide +kernel) (Nat.le_of_ble_eq_true rfl) (fun X C T => ?_)
  show am_G X (am_VV ad) (0, 0) 0 [(0, .ref 4), (1, .int set)] [] r h
  have hM9 : rf_M w < 17 := hV.1.1.2
  have hS9 : rf_S w < 11 := hV.1.2.1.2
  have hO9 : rf_O w < 11 := hV.1.2.2.2
  refine am_iconstN (pc := 0) (k := 0) C dX3_rootsIn_0 ?_
  refine am_istore_n (pc := 1) (ls' := [(0, .ref 4), (1, .int set), (2, .int (nI 0))]) C dX3_rootsIn_1 (by decide) rfl ?_
  refine am_iconstN (pc := 2) (k := 0) C dX3_rootsIn_2 ?_
  refine am_istore_n (pc := 3) (ls' := [(0, .ref 4), (1, .int set), (2, .int (nI 0)), (3, .int (nI 0))]) C dX3_rootsIn_3 (by decide) rfl ?_
  have L4 : ∀ (j4 i4 : Nat), i4 + j4 = rf_M w → am_G X (am_VV ad) (0, 0) 4 [(0, .ref 4), (1, .int set), (2, .int (rf_set (fun m => am_bt set m && decide (rf_mem w m 1 = 0)) i4)), (3, .int (nI i4))] [] r h := by
    intro j4
    induction j4 with
    | zero =>
      intro i4 hi4 
      obtain rfl : i4 = rf_M w := by omega
      refine am_iload_n (pc := 4) C dX3_rootsIn_4 rfl ?_
      refine am_aload_n (pc := 5) C dX3_rootsIn_5 rfl ?_
      refine am_getI (pc := 6) C dX3_rootsIn_6 f3_52 bn_4 sh_4 ?_
      refine am_top (show ((h 4) 1) = (nI (rf_M w)) from (hLo.1.2.1.trans hV.1.1.1)) ?_
      refine am_icmp_geN (pc := 9) (tgt := 43) C dX3_rootsIn_9 (by decide) (by omega) (by omega) (fun q9 => ?_) (fun q9 => ?_)
      · skip
        refine am_iload_n (pc := 43) C dX3_rootsIn_43 rfl ?_
        exact am_ireti T dX3_rootsIn_44 rfl (Nat.le_refl _) (Nat.le_refl _) rfl rfl rfl
      · skip
        exact absurd q9 (by omega)
    | succ j4 ih4 =>
      intro i4 hi4 
      have hl4 : i4 < rf_M w := by omega
      refine am_iload_n (pc := 4) C dX3_rootsIn_4 rfl ?_
      refine am_aload_n (pc := 5) C dX3_rootsIn_5 rfl ?_
      refine am_getI (pc := 6) C dX3_rootsIn_6 f3_52 bn_4 sh_4 ?_
      refine am_top (show ((h 4) 1) = (nI (rf_M w)) from (hLo.1.2.1.trans hV.1.1.1)) ?_
      refine am_icmp_geN (pc := 9) (tgt := 43) C dX3_rootsIn_9 (by decide) (by omega) (by omega) (fun q9 => ?_) (fun q9 => ?_)
      · skip
        exact absurd q9 (by omega)
      · skip
        refine am_iload_n (pc := 12) C dX3_rootsIn_12 rfl ?_
        refine am_iload_n (pc := 13) C dX3_rootsIn_13 rfl ?_
        refine am_callSNi (Y := mX11_has) (pc := 14) (st := []) (As := [.int set, .int (nI i4)]) (x := (am_b (am_bt set i4))) (h2 := h) C dX3_rootsIn_14 k3_65 v_X11_has rfl rfl (by decide) (Nat.zero_le _) (Nat.zero_le _) (Nat.le_of_ble_eq_true rfl) (c_X11_has set i4 (show i4 < 32 from by omega)) ?_
        refine am_if_eqB (pc := 17) (tgt := 37) C dX3_rootsIn_17 (by decide) (fun q17 => ?_) (fun q17 => ?_)
        · skip
          refine am_iincN (pc := 37) (ls' := [(0, .ref 4), (1, .int set), (2, .int (rf_set (fun m => am_bt set m && decide (rf_mem w m 1 = 0)) i4)), (3, .int (nI (i4 + 1)))]) C dX3_rootsIn_37 rfl (am_up1 _) (by decide) rfl ?_
          refine am_goto (pc := 40) (tgt := 4) C dX3_rootsIn_40 (by decide) ?_
          refine am_lsv (ls' := [(0, .ref 4), (1, .int set), (2, .int (rf_set (fun m => am_bt set m && decide (rf_mem w m 1 = 0)) (i4 + 1))), (3, .int (nI (i4 + 1)))]) (by rw [show (rf_set (fun m => am_bt set m && decide (rf_mem w m 1 = 0)) i4) = (rf_set (fun m => am_bt set m && decide (rf_mem w m 1 = 0)) (i4 + 1)) from (by first | exact rf_set_n (by simp [q9, q17]) | exact rf_set_t (by simp [q9, q17]))]) ?_
          exact ih4 (i4 + 1) (by omega) 
        · skip
          refine am_aload_n (pc := 20) C dX3_rootsIn_20 rfl ?_
          refine am_getR (pc := 21) (j := 6) C dX3_rootsIn_21 f3_15 bn_4 sh_4 (rf_4_5 hR) ?_
          refine am_iload_n (pc := 24) C dX3_rootsIn_24 rfl ?_
          refine am_callSNi (Y := mX11_pick) (pc := 25) (st := []) (As := [.ref 6, .int (nI i4)]) (x := ((h 6) i4)) (h2 := h) C dX3_rootsIn_25 k3_69 v_X11_pick rfl rfl (by decide) (Nat.zero_le _) (Nat.zero_le _) (Nat.le_of_ble_eq_true rfl) (c_X11_pick 6 i4 16 bn_6 sh_6 (show i4 < 16 from by omega) (by decide)) ?_
          refine am_top (show ((h 6) i4) = (rf_mem w i4 1) from (hLo.2.1 i4 (by omega)).2.1) ?_
          refine am_if_ne (pc := 28) (tgt := 37) C dX3_rootsIn_28 (by decide) (fun q26 => ?_) (fun q26 => ?_)
          · skip
            refine am_iincN (pc := 37) (ls' := [(0, .ref 4), (1, .int set), (2, .int (rf_set (fun m => am_bt set m && decide (rf_mem w m 1 = 0)) i4)), (3, .int (nI (i4 + 1)))]) C dX3_rootsIn_37 rfl (am_up1 _) (by decide) rfl ?_
            refine am_goto (pc := 40) (tgt := 4) C dX3_rootsIn_40 (by decide) ?_
            refine am_lsv (ls' := [(0, .ref 4), (1, .int set), (2, .int (rf_set (fun m => am_bt set m && decide (rf_mem w m 1 = 0)) (i4 + 1))), (3, .int (nI (i4 + 1)))]) (by rw [show (rf_set (fun m => am_bt set m && decide (rf_mem w m 1 = 0)) i4) = (rf_set (fun m => am_bt set m && decide (rf_mem w m 1 = 0)) (i4 + 1)) from (by first | exact rf_set_n (by simp [q9, q17, q26]) | exact rf_set_t (by simp [q9, q17, q26]))]) ?_
            exact ih4 (i4 + 1) (by omega) 
          · skip
            refine am_iload_n (pc := 31) C dX3_rootsIn_31 rfl ?_
            refine am_iconstN (pc := 32) (k := 1) C dX3_rootsIn_32 ?_
            refine am_iload_n (pc := 33) C dX3_rootsIn_33 rfl ?_
            refine am_ishl (pc := 34) C dX3_rootsIn_34 ?_
            refine am_ior (pc := 35) C dX3_rootsIn_35 ?_
            refine am_istore_n (pc := 36) (ls' := [(0, .ref 4), (1, .int set), (2, .int ((rf_set (fun m => am_bt set m && decide (rf_mem w m 1 = 0)) i4) ||| ((nI 1) <<< ((nI i4) &&& 31)))), (3, .int (nI i4))]) C dX3_rootsIn_36 (by decide) rfl ?_
            refine am_iincN (pc := 37) (ls' := [(0, .ref 4), (1, .int set), (2, .int ((rf_set (fun m => am_bt set m && decide (rf_mem w m 1 = 0)) i4) ||| ((nI 1) <<< ((nI i4) &&& 31)))), (3, .int (nI (i4 + 1)))]) C dX3_rootsIn_37 rfl (am_up1 _) (by decide) rfl ?_
            refine am_goto (pc := 40) (tgt := 4) C dX3_rootsIn_40 (by decide) ?_
            refine am_lsv (ls' := [(0, .ref 4), (1, .int set), (2, .int (rf_set (fun m => am_bt set m && decide (rf_mem w m 1 = 0)) (i4 + 1))), (3, .int (nI (i4 + 1)))]) (by rw [show ((rf_set (fun m => am_bt set m && decide (rf_mem w m 1 = 0)) i4) ||| ((nI 1) <<< ((nI i4) &&& 31))) = (rf_set (fun m => am_bt set m && decide (rf_mem w m 1 = 0)) (i4 + 1)) from (by first | exact rf_set_n (by simp [q9, q17, q26]) | exact rf_set_t (by simp [q9, q17, q26]))]) ?_
            exact ih4 (i4 + 1) (by omega) 
  exact L4 (rf_M w) 0 (by omega) 

set_option maxHeartbeats 400000 in
set_option maxRecDepth 100000 in
theorem c_X3_ordersOf {ad : Nat → Nat} {r : am_R} (hR : am_rs r) {h : am_H} (s : Int32) (w : rf_W) (hV : rf_I w) (hLo : cl_Lo (h) 4 w)  : am_CM mX3_ordersOf 1 0 0 [.ref 4, .int s] (am_VV ad) r h (am_po (some (.int (rf_ordersOf w s))) r h) := by
  refine am_CM.of (by decide +kernel) (Nat.le_of_ble_eq_true rfl) (fun X C T => ?_)
  show am_G X (am_VV ad) (0, 0) 0 [(0, .ref 4), (1, .int s)] [] r h
  have hM9 : rf_M w < 17 := hV.1.1.2
  have hS9 : rf_S w < 11 := hV.1.2.1.2
  have hO9 : rf_O w < 11 := hV.1.2.2.2
  refine am_iconstN (pc := 0) (k := 0) C dX3_ordersOf_0 ?_
  refine am_istore_n (pc := 1) (ls' := [(0, .ref 4), (1, .int s), (2, .int (nI 0))]) C dX3_ordersOf_1 (by decide) rfl ?_
  refine am_iconstN (pc := 2) (k := 0) C dX3_ordersOf_2 ?_
  refine am_istore_n (pc := 3) (ls' := [(0, .ref 4), (1, .int s), (2, .int (nI 0)), (3, .int (nI 0))]) C dX3_ordersOf_3 (by decide) rfl ?_
  have L4 : ∀ (j4 i4 : Nat), i4 + j4 = rf_O w → am_G X (am_VV ad) (0, 0) 4 [(0, .ref 4), (1, .int s), (2, .int (rf_set (fun o => decide (rf_ord w o 0 = s)) i4)), (3, .int (nI i4))] [] r h := by
    intro j4
    induction j4 with
    | zero =>
      intro i4 hi4 
      obtain rfl : i4 = rf_O w := by omega
      refine am_iload_n (pc := 4) C dX3_ordersOf_4 rfl ?_
      refine am_aload_n (pc := 5) C dX3_ordersOf_5 rfl ?_
      refine am_getI (pc := 6) C dX3_ordersOf_6 f3_58 bn_4 sh_4 ?_
      refine am_top (show ((h 4) 3) = (nI (rf_O w)) from (hLo.1.2.2.2.trans hV.1.2.2.1)) ?_
      refine am_icmp_geN (pc := 9) (tgt := 36) C dX3_ordersOf_9 (by decide) (by omega) (by omega) (fun q9 => ?_) (fun q9 => ?_)
      · skip
        refine am_iload_n (pc := 36) C dX3_ordersOf_36 rfl ?_
        exact am_ireti T dX3_ordersOf_37 rfl (Nat.le_refl _) (Nat.le_refl _) rfl rfl rfl
      · skip
        exact absurd q9 (by omega)
    | succ j4 ih4 =>
      intro i4 hi4 
      have hl4 : i4 < rf_O w := by omega
      refine am_iload_n (pc := 4) C dX3_ordersOf_4 rfl ?_
      refine am_aload_n (pc := 5) C dX3_ordersOf_5 rfl ?_
      refine am_getI (pc := 6) C dX3_ordersOf_6 f3_58 bn_4 sh_4 ?_
      refine am_top (show ((h 4) 3) = (nI (rf_O w)) from (hLo.1.2.2.2.trans hV.1.2.2.1)) ?_
      refine am_icmp_geN (pc := 9) (tgt := 36) C dX3_ordersOf_9 (by decide) (by omega) (by omega) (fun q9 => ?_) (fun q9 => ?_)
      · skip
        exact absurd q9 (by omega)
      · skip
        refine am_aload_n (pc := 12) C dX3_ordersOf_12 rfl ?_
        refine am_getR (pc := 13) (j := 14) C dX3_ordersOf_13 f3_39 bn_4 sh_4 (rf_4_13 hR) ?_
        refine am_iload_n (pc := 16) C dX3_ordersOf_16 rfl ?_
        refine am_callSNi (Y := mX11_pick) (pc := 17) (st := []) (As := [.ref 14, .int (nI i4)]) (x := ((h 14) i4)) (h2 := h) C dX3_ordersOf_17 k3_69 v_X11_pick rfl rfl (by decide) (Nat.zero_le _) (Nat.zero_le _) (Nat.le_of_ble_eq_true rfl) (c_X11_pick 14 i4 10 bn_14 sh_14 (show i4 < 10 from by omega) (by decide)) ?_
        refine am_top (show ((h 14) i4) = (rf_ord w i4 0) from (hLo.2.2.2.1 i4 (by omega)).1) ?_
        refine am_iload_n (pc := 20) C dX3_ordersOf_20 rfl ?_
        refine am_icmp_ne (pc := 21) (tgt := 30) C dX3_ordersOf_21 (by decide) (fun q19 => ?_) (fun q19 => ?_)
        · skip
          refine am_iincN (pc := 30) (ls' := [(0, .ref 4), (1, .int s), (2, .int (rf_set (fun o => decide (rf_ord w o 0 = s)) i4)), (3, .int (nI (i4 + 1)))]) C dX3_ordersOf_30 rfl (am_up1 _) (by decide) rfl ?_
          refine am_goto (pc := 33) (tgt := 4) C dX3_ordersOf_33 (by decide) ?_
          refine am_lsv (ls' := [(0, .ref 4), (1, .int s), (2, .int (rf_set (fun o => decide (rf_ord w o 0 = s)) (i4 + 1))), (3, .int (nI (i4 + 1)))]) (by rw [show (rf_set (fun o => decide (rf_ord w o 0 = s)) i4) = (rf_set (fun o => decide (rf_ord w o 0 = s)) (i4 + 1)) from rf_set_n (decide_eq_false q19)]) ?_
          exact ih4 (i4 + 1) (by omega) 
        · skip
          refine am_iload_n (pc := 24) C dX3_ordersOf_24 rfl ?_
          refine am_iconstN (pc := 25) (k := 1) C dX3_ordersOf_25 ?_
          refine am_iload_n (pc := 26) C dX3_ordersOf_26 rfl ?_
          refine am_ishl (pc := 27) C dX3_ordersOf_27 ?_
          refine am_ior (pc := 28) C dX3_ordersOf_28 ?_
          refine am_istore_n (pc := 29) (ls' := [(0, .ref 4), (1, .int s), (2, .int ((rf_set (fun o => decide (rf_ord w o 0 = s)) i4) ||| ((nI 1) <<< ((nI i4) &&& 31)))), (3, .int (nI i4))]) C dX3_ordersOf_29 (by decide) rfl ?_
          refine am_iincN (pc := 30) (ls' := [(0, .ref 4), (1, .int s), (2, .int ((rf_set (fun o => decide (rf_ord w o 0 = s)) i4) ||| ((nI 1) <<< ((nI i4) &&& 31)))), (3, .int (nI (i4 + 1)))]) C dX3_ordersOf_30 rfl (am_up1 _) (by decide) rfl ?_
          refine am_goto (pc := 33) (tgt := 4) C dX3_ordersOf_33 (by decide) ?_
          refine am_lsv (ls' := [(0, .ref 4), (1, .int s), (2, .int (rf_set (fun o => decide (rf_ord w o 0 = s)) (i4 + 1))), (3, .int (nI (i4 + 1)))]) (by rw [show ((rf_set (fun o => decide (rf_ord w o 0 = s)) i4) ||| ((nI 1) <<< ((nI i4) &&& 31))) = (rf_set (fun o => decide (rf_ord w o 0 = s)) (i4 + 1)) from rf_set_t (decide_eq_true q19)]) ?_
          exact ih4 (i4 + 1) (by omega) 
  exact L4 (rf_O w) 0 (by omega) 

set_option maxHeartbeats 400000 in
set_option maxRecDepth 100000 in
theorem c_X3_neededInAll {ad : Nat → Nat} {r : am_R} (hR : am_rs r) {h : am_H} (o : Nat) (w : rf_W) (hV : rf_I w) (hLo : cl_Lo (h) 4 w) (ho : o < rf_O w)  : am_CM mX3_neededInAll 1 0 0 [.ref 4, .int (nI o)] (am_VV ad) r h (am_po (some (.int (rf_pc (rf_bearsAll w (rf_ord w o 1))))) r h) := by
  refine am_CM.of (by decide +kernel) (Nat.le_of_ble_eq_true rfl) (fun X C T => ?_)
  show am_G X (am_VV ad) (0, 0) 0 [(0, .ref 4), (1, .int (nI o))] [] r h
  have hM9 : rf_M w < 17 := hV.1.1.2
  have hS9 : rf_S w < 11 := hV.1.2.1.2
  have hO9 : rf_O w < 11 := hV.1.2.2.2
  refine am_aload_n (pc := 0) C dX3_neededInAll_0 rfl ?_
  refine am_getR (pc := 1) (j := 15) C dX3_neededInAll_1 f3_42 bn_4 sh_4 (rf_4_14 hR) ?_
  refine am_iload_n (pc := 4) C dX3_neededInAll_4 rfl ?_
  refine am_callSNi (Y := mX11_pick) (pc := 5) (st := []) (As := [.ref 15, .int (nI o)]) (x := ((h 15) o)) (h2 := h) C dX3_neededInAll_5 k3_69 v_X11_pick rfl rfl (by decide) (Nat.zero_le _) (Nat.zero_le _) (Nat.le_of_ble_eq_true rfl) (c_X11_pick 15 o 10 bn_15 sh_15 (show o < 10 from by omega) (by decide)) ?_
  refine am_top (show ((h 15) o) = (rf_ord w o 1) from (hLo.2.2.2.1 o (by omega)).2) ?_
  refine am_istore_n (pc := 8) (ls' := [(0, .ref 4), (1, .int (nI o)), (2, .int (rf_ord w o 1))]) C dX3_neededInAll_8 (by decide) rfl ?_
  refine am_iload_n (pc := 9) C dX3_neededInAll_9 rfl ?_
  refine am_istore_n (pc := 10) (ls' := [(0, .ref 4), (1, .int (nI o)), (2, .int (rf_ord w o 1)), (3, .int (rf_ord w o 1))]) C dX3_neededInAll_10 (by decide) rfl ?_
  refine am_iconstN (pc := 11) (k := 0) C dX3_neededInAll_11 ?_
  refine am_istore (pc := 12) (ls' := [(0, .ref 4), (1, .int (nI o)), (2, .int (rf_ord w o 1)), (3, .int (rf_ord w o 1)), (4, .int (nI 0))]) C dX3_neededInAll_12 (by decide) rfl ?_
  have L14 : ∀ (j14 i14 : Nat), i14 + j14 = rf_M w → am_G X (am_VV ad) (0, 0) 14 [(0, .ref 4), (1, .int (nI o)), (2, .int (rf_ord w o 1)), (3, .int (rf_ball w (rf_ord w o 1) i14)), (4, .int (nI i14))] [] r h := by
    intro j14
    induction j14 with
    | zero =>
      intro i14 hi14 
      obtain rfl : i14 = rf_M w := by omega
      refine am_iload (pc := 14) C dX3_neededInAll_14 rfl ?_
      refine am_aload_n (pc := 16) C dX3_neededInAll_16 rfl ?_
      refine am_getI (pc := 17) C dX3_neededInAll_17 f3_52 bn_4 sh_4 ?_
      refine am_top (show ((h 4) 1) = (nI (rf_M w)) from (hLo.1.2.1.trans hV.1.1.1)) ?_
      refine am_icmp_geN (pc := 20) (tgt := 50) C dX3_neededInAll_20 (by decide) (by omega) (by omega) (fun q20 => ?_) (fun q20 => ?_)
      · skip
        refine am_iload_n (pc := 50) C dX3_neededInAll_50 rfl ?_
        refine am_callSi (Y := mJ6_bitCount_0f7a4) (pc := 51) (st := []) (As := [.int (rf_ball w (rf_ord w o 1) (rf_M w))]) (x := (rf_pc (rf_ball w (rf_ord w o 1) (rf_M w)))) (h2 := h) C dX3_neededInAll_51 k3_77 v_J6_bitCount_0f7a4 rfl rfl (by decide) (Nat.zero_le _) (Nat.zero_le _) (Nat.le_of_ble_eq_true rfl) (c_J6_bitCount_0f7a4 hR (rf_ball w (rf_ord w o 1) (rf_M w))) ?_
        exact am_ireti T dX3_neededInAll_54 rfl (Nat.le_refl _) (Nat.le_refl _) rfl rfl rfl
      · skip
        exact absurd q20 (by omega)
    | succ j14 ih14 =>
      intro i14 hi14 
      have hl14 : i14 < rf_M w := by omega
      refine am_iload (pc := 14) C dX3_neededInAll_14 rfl ?_
      refine am_aload_n (pc := 16) C dX3_neededInAll_16 rfl ?_
      refine am_getI (pc := 17) C dX3_neededInAll_17 f3_52 bn_4 sh_4 ?_
      refine am_top (show ((h 4) 1) = (nI (rf_M w)) from (hLo.1.2.1.trans hV.1.1.1)) ?_
      refine am_icmp_geN (pc := 20) (tgt := 50) C dX3_neededInAll_20 (by decide) (by omega) (by omega) (fun q20 => ?_) (fun q20 => ?_)
      · skip
        exact absurd q20 (by omega)
      · skip
        refine am_iload_n (pc := 23) C dX3_neededInAll_23 rfl ?_
        refine am_iload (pc := 24) C dX3_neededInAll_24 rfl ?_
        refine am_callSNi (Y := mX11_has) (pc := 26) (st := []) (As := [.int (rf_ord w o 1), .int (nI i14)]) (x := (am_b (am_bt (rf_ord w o 1) i14))) (h2 := h) C dX3_neededInAll_26 k3_65 v_X11_has rfl rfl (by decide) (Nat.zero_le _) (Nat.zero_le _) (Nat.le_of_ble_eq_true rfl) (c_X11_has (rf_ord w o 1) i14 (show i14 < 32 from by omega)) ?_
        refine am_if_eqB (pc := 29) (tgt := 44) C dX3_neededInAll_29 (by decide) (fun q29 => ?_) (fun q29 => ?_)
        · skip
          refine am_iincN (pc := 44) (ls' := [(0, .ref 4), (1, .int (nI o)), (2, .int (rf_ord w o 1)), (3, .int (rf_ball w (rf_ord w o 1) i14)), (4, .int (nI (i14 + 1)))]) C dX3_neededInAll_44 rfl (am_up1 _) (by decide) rfl ?_
          refine am_goto (pc := 47) (tgt := 14) C dX3_neededInAll_47 (by decide) ?_
          refine am_lsv (ls' := [(0, .ref 4), (1, .int (nI o)), (2, .int (rf_ord w o 1)), (3, .int (rf_ball w (rf_ord w o 1) (i14 + 1))), (4, .int (nI (i14 + 1)))]) (by rw [show (rf_ball w (rf_ord w o 1) i14) = (rf_ball w (rf_ord w o 1) (i14 + 1)) from (by rw [rf_ball, if_neg (by rw [q29]; exact Bool.false_ne_true)]; exact (rf_or_n0 _).symm)]) ?_
          exact ih14 (i14 + 1) (by omega) 
        · skip
          refine am_iload_n (pc := 32) C dX3_neededInAll_32 rfl ?_
          refine am_aload_n (pc := 33) C dX3_neededInAll_33 rfl ?_
          refine am_getR (pc := 34) (j := 7) C dX3_neededInAll_34 f3_18 bn_4 sh_4 (rf_4_6 hR) ?_
          refine am_iload (pc := 37) C dX3_neededInAll_37 rfl ?_
          refine am_callSNi (Y := mX11_pick) (pc := 39) (st := [.int (rf_ball w (rf_ord w o 1) i14)]) (As := [.ref 7, .int (nI i14)]) (x := ((h 7) i14)) (h2 := h) C dX3_neededInAll_39 k3_69 v_X11_pick rfl rfl (by decide) (Nat.zero_le _) (Nat.zero_le _) (Nat.le_of_ble_eq_true rfl) (c_X11_pick 7 i14 16 bn_7 sh_7 (show i14 < 16 from by omega) (by decide)) ?_
          refine am_top (show ((h 7) i14) = (rf_bears w i14) from (hLo.2.1 i14 (by omega)).2.2.1) ?_
          refine am_ior (pc := 42) C dX3_neededInAll_42 ?_
          refine am_istore_n (pc := 43) (ls' := [(0, .ref 4), (1, .int (nI o)), (2, .int (rf_ord w o 1)), (3, .int ((rf_ball w (rf_ord w o 1) i14) ||| (rf_bears w i14))), (4, .int (nI i14))]) C dX3_neededInAll_43 (by decide) rfl ?_
          refine am_iincN (pc := 44) (ls' := [(0, .ref 4), (1, .int (nI o)), (2, .int (rf_ord w o 1)), (3, .int ((rf_ball w (rf_ord w o 1) i14) ||| (rf_bears w i14))), (4, .int (nI (i14 + 1)))]) C dX3_neededInAll_44 rfl (am_up1 _) (by decide) rfl ?_
          refine am_goto (pc := 47) (tgt := 14) C dX3_neededInAll_47 (by decide) ?_
          refine am_lsv (ls' := [(0, .ref 4), (1, .int (nI o)), (2, .int (rf_ord w o 1)), (3, .int (rf_ball w (rf_ord w o 1) (i14 + 1))), (4, .int (nI (i14 + 1)))]) (by rw [show ((rf_ball w (rf_ord w o 1) i14) ||| (rf_bears w i14)) = (rf_ball w (rf_ord w o 1) (i14 + 1)) from (by rw [rf_ball, if_pos q29])]) ?_
          exact ih14 (i14 + 1) (by omega) 
  exact L14 (rf_M w) 0 (by omega) 

set_option maxHeartbeats 400000 in
set_option maxRecDepth 100000 in
theorem c_X3_allMemories {ad : Nat → Nat} {r : am_R} (hR : am_rs r) {h : am_H}  (w : rf_W) (hV : rf_I w) (hLo : cl_Lo (h) 4 w)  : am_CM mX3_allMemories 0 0 0 [.ref 4] (am_VV ad) r h (am_po (some (.int ((nI 1 <<< (nI (rf_M w) &&& 31)) - nI 1))) r h) := by
  refine am_CM.of (by decide +kernel) (Nat.le_of_ble_eq_true rfl) (fun X C T => ?_)
  show am_G X (am_VV ad) (0, 0) 0 [(0, .ref 4)] [] r h
  have hM9 : rf_M w < 17 := hV.1.1.2
  have hS9 : rf_S w < 11 := hV.1.2.1.2
  have hO9 : rf_O w < 11 := hV.1.2.2.2
  refine am_iconstN (pc := 0) (k := 1) C dX3_allMemories_0 ?_
  refine am_aload_n (pc := 1) C dX3_allMemories_1 rfl ?_
  refine am_getI (pc := 2) C dX3_allMemories_2 f3_52 bn_4 sh_4 ?_
  refine am_top (show ((h 4) 1) = (nI (rf_M w)) from (hLo.1.2.1.trans hV.1.1.1)) ?_
  refine am_ishl (pc := 5) C dX3_allMemories_5 ?_
  refine am_iconstN (pc := 6) (k := 1) C dX3_allMemories_6 ?_
  refine am_isub (pc := 7) C dX3_allMemories_7 ?_
  exact am_ireti T dX3_allMemories_8 rfl (Nat.le_refl _) (Nat.le_refl _) rfl rfl rfl

set_option maxHeartbeats 400000 in
set_option maxRecDepth 100000 in
theorem c_X5_knownAt {ad : Nat → Nat} {r : am_R} (hR : am_rs r) {h : am_H} (s : Nat) (k : Nat) (w : rf_W) (hV : rf_I w) (hSc : cl_Sc (h) 25 w) (hs : s < rf_S w) (hk : k < rf_kn w s)  : am_CM mX5_knownAt 1 0 0 [.ref 25, .int (nI s), .int (nI k)] (am_VV ad) r h (am_po (some (.int (nI (rf_li w s k)))) r h) := by
  refine am_CM.of (by decide +kernel) (Nat.le_of_ble_eq_true rfl) (fun X C T => ?_)
  show am_G X (am_VV ad) (0, 0) 0 [(0, .ref 25), (1, .int (nI s)), (2, .int (nI k))] [] r h
  have hM9 : rf_M w < 17 := hV.1.1.2
  have hS9 : rf_S w < 11 := hV.1.2.1.2
  have hO9 : rf_O w < 11 := hV.1.2.2.2
  have hIs := hV.2.1 s hs
  have hk13 : rf_kn w s < 13 := hIs.2.2.2.2.1.2
  refine am_iload_n (pc := 0) C dX5_knownAt_0 rfl ?_
  refine am_if_ltN (pc := 1) (tgt := 32) C dX5_knownAt_1 (by decide) (by omega) ?_
  refine am_iload_n (pc := 4) C dX5_knownAt_4 rfl ?_
  refine am_aload_n (pc := 5) C dX5_knownAt_5 rfl ?_
  refine am_getR (pc := 6) (j := 28) C dX5_knownAt_6 f5_22 bn_25 sh_25 (rf_25_7 hR) ?_
  refine am_iload_n (pc := 9) C dX5_knownAt_9 rfl ?_
  refine am_callSNi (Y := mX11_pick) (pc := 10) (st := [.int (nI k)]) (As := [.ref 28, .int (nI s)]) (x := ((h 28) s)) (h2 := h) C dX5_knownAt_10 k5_75 v_X11_pick rfl rfl (by decide) (Nat.zero_le _) (Nat.zero_le _) (Nat.le_of_ble_eq_true rfl) (c_X11_pick 28 s 10 bn_28 sh_28 (show s < 10 from by omega) (by decide)) ?_
  refine am_top (show ((h 28) s) = (nI (rf_kn w s)) from ((hSc.2.1 s (by omega)).2.2.1.trans (hV.2.1 s (by omega)).2.2.2.2.1.1)) ?_
  refine am_icmp_geN (pc := 13) (tgt := 32) C dX5_knownAt_13 (by decide) (by omega) (by omega) (fun q13 => ?_) (fun q13 => ?_)
  · skip
    exact absurd q13 (by omega)
  · skip
    refine am_aload_n (pc := 16) C dX5_knownAt_16 rfl ?_
    refine am_getR (pc := 17) (j := 31) C dX5_knownAt_17 f5_31 bn_25 sh_25 (rf_25_10 hR) ?_
    refine am_iload_n (pc := 20) C dX5_knownAt_20 rfl ?_
    refine am_bipush (pc := 21) (v := nI 12) C dX5_knownAt_21 (by decide) ?_
    refine am_imulN (pc := 23) C dX5_knownAt_23 ?_
    refine am_iload_n (pc := 24) C dX5_knownAt_24 rfl ?_
    refine am_iaddN (pc := 25) C dX5_knownAt_25 ?_
    refine am_callSNi (Y := mX11_pick) (pc := 26) (st := []) (As := [.ref 31, .int (nI ((s * 12) + k))]) (x := ((h 31) ((s * 12) + k))) (h2 := h) C dX5_knownAt_26 k5_75 v_X11_pick rfl rfl (by decide) (Nat.zero_le _) (Nat.zero_le _) (Nat.le_of_ble_eq_true rfl) (c_X11_pick 31 ((s * 12) + k) 120 bn_31 sh_31 (show (s * 12) + k < 120 from by omega) (by decide)) ?_
    refine am_top (show ((h 31) ((s * 12) + k)) = (nI (rf_li w s k)) from (((hSc.2.1 s hs).2.2.2.2.2 k hk).trans (hIs.2.2.2.2.2.1 k hk).1)) ?_
    refine am_goto (pc := 29) (tgt := 33) C dX5_knownAt_29 (by decide) ?_
    exact am_ireti T dX5_knownAt_33 rfl (Nat.le_refl _) (Nat.le_refl _) rfl rfl rfl

set_option maxHeartbeats 400000 in
set_option maxRecDepth 100000 in
theorem c_X10_whoKnow {ad : Nat → Nat} {r : am_R} (hR : am_rs r) {h : am_H} (m : Nat) (w : rf_W) (hV : rf_I w) (hLo : cl_Lo (h) 4 w) (hSc : cl_Sc (h) 25 w) (hm : m < 32)  : am_CM mX10_whoKnow 1 0 0 [.ref 3, .int (nI m)] (am_VV ad) r h (am_po (some (.int (rf_knowers w m))) r h) := by
  refine am_CM.of (by decide +kernel) (Nat.le_of_ble_eq_true rfl) (fun X C T => ?_)
  show am_G X (am_VV ad) (0, 0) 0 [(0, .ref 3), (1, .int (nI m))] [] r h
  have hM9 : rf_M w < 17 := hV.1.1.2
  have hS9 : rf_S w < 11 := hV.1.2.1.2
  have hO9 : rf_O w < 11 := hV.1.2.2.2
  refine am_iconstN (pc := 0) (k := 0) C dX10_whoKnow_0 ?_
  refine am_istore_n (pc := 1) (ls' := [(0, .ref 3), (1, .int (nI m)), (2, .int (nI 0))]) C dX10_whoKnow_1 (by decide) rfl ?_
  refine am_iconstN (pc := 2) (k := 0) C dX10_whoKnow_2 ?_
  refine am_istore_n (pc := 3) (ls' := [(0, .ref 3), (1, .int (nI m)), (2, .int (nI 0)), (3, .int (nI 0))]) C dX10_whoKnow_3 (by decide) rfl ?_
  have L4 : ∀ (j4 i4 : Nat), i4 + j4 = rf_S w → am_G X (am_VV ad) (0, 0) 4 [(0, .ref 3), (1, .int (nI m)), (2, .int (rf_set (fun s => am_bt (rf_known w s) m) i4)), (3, .int (nI i4))] [] r h := by
    intro j4
    induction j4 with
    | zero =>
      intro i4 hi4 
      obtain rfl : i4 = rf_S w := by omega
      refine am_iload_n (pc := 4) C dX10_whoKnow_4 rfl ?_
      refine am_aload_n (pc := 5) C dX10_whoKnow_5 rfl ?_
      refine am_getR (pc := 6) (j := 4) C dX10_whoKnow_6 f10_9 bn_3 sh_3 (rf_3_0 hR) ?_
      refine am_getI (pc := 9) C dX10_whoKnow_9 f10_138 bn_4 sh_4 ?_
      refine am_top (show ((h 4) 2) = (nI (rf_S w)) from (hLo.1.2.2.1.trans hV.1.2.1.1)) ?_
      refine am_icmp_geN (pc := 12) (tgt := 45) C dX10_whoKnow_12 (by decide) (by omega) (by omega) (fun q12 => ?_) (fun q12 => ?_)
      · skip
        refine am_iload_n (pc := 45) C dX10_whoKnow_45 rfl ?_
        exact am_ireti T dX10_whoKnow_46 rfl (Nat.le_refl _) (Nat.le_refl _) rfl rfl rfl
      · skip
        exact absurd q12 (by omega)
    | succ j4 ih4 =>
      intro i4 hi4 
      have hl4 : i4 < rf_S w := by omega
      refine am_iload_n (pc := 4) C dX10_whoKnow_4 rfl ?_
      refine am_aload_n (pc := 5) C dX10_whoKnow_5 rfl ?_
      refine am_getR (pc := 6) (j := 4) C dX10_whoKnow_6 f10_9 bn_3 sh_3 (rf_3_0 hR) ?_
      refine am_getI (pc := 9) C dX10_whoKnow_9 f10_138 bn_4 sh_4 ?_
      refine am_top (show ((h 4) 2) = (nI (rf_S w)) from (hLo.1.2.2.1.trans hV.1.2.1.1)) ?_
      refine am_icmp_geN (pc := 12) (tgt := 45) C dX10_whoKnow_12 (by decide) (by omega) (by omega) (fun q12 => ?_) (fun q12 => ?_)
      · skip
        exact absurd q12 (by omega)
      · skip
        refine am_aload_n (pc := 15) C dX10_whoKnow_15 rfl ?_
        refine am_getR (pc := 16) (j := 25) C dX10_whoKnow_16 f10_22 bn_3 sh_3 (rf_3_2 hR) ?_
        refine am_getR (pc := 19) (j := 29) C dX10_whoKnow_19 f10_61 bn_25 sh_25 (rf_25_8 hR) ?_
        refine am_iload_n (pc := 22) C dX10_whoKnow_22 rfl ?_
        refine am_callSNi (Y := mX11_pick) (pc := 23) (st := []) (As := [.ref 29, .int (nI i4)]) (x := ((h 29) i4)) (h2 := h) C dX10_whoKnow_23 k10_54 v_X11_pick rfl rfl (by decide) (Nat.zero_le _) (Nat.zero_le _) (Nat.le_of_ble_eq_true rfl) (c_X11_pick 29 i4 10 bn_29 sh_29 (show i4 < 10 from by omega) (by decide)) ?_
        refine am_top (show ((h 29) i4) = (rf_known w i4) from (hSc.2.1 i4 (by omega)).2.2.2.1) ?_
        refine am_iload_n (pc := 26) C dX10_whoKnow_26 rfl ?_
        refine am_callSNi (Y := mX11_has) (pc := 27) (st := []) (As := [.int (rf_known w i4), .int (nI m)]) (x := (am_b (am_bt (rf_known w i4) m))) (h2 := h) C dX10_whoKnow_27 k10_67 v_X11_has rfl rfl (by decide) (Nat.zero_le _) (Nat.zero_le _) (Nat.le_of_ble_eq_true rfl) (c_X11_has (rf_known w i4) m hm) ?_
        refine am_if_eqB (pc := 30) (tgt := 39) C dX10_whoKnow_30 (by decide) (fun q30 => ?_) (fun q30 => ?_)
        · skip
          refine am_iincN (pc := 39) (ls' := [(0, .ref 3), (1, .int (nI m)), (2, .int (rf_set (fun s => am_bt (rf_known w s) m) i4)), (3, .int (nI (i4 + 1)))]) C dX10_whoKnow_39 rfl (am_up1 _) (by decide) rfl ?_
          refine am_goto (pc := 42) (tgt := 4) C dX10_whoKnow_42 (by decide) ?_
          refine am_lsv (ls' := [(0, .ref 3), (1, .int (nI m)), (2, .int (rf_set (fun s => am_bt (rf_known w s) m) (i4 + 1))), (3, .int (nI (i4 + 1)))]) (by rw [show (rf_set (fun s => am_bt (rf_known w s) m) i4) = (rf_set (fun s => am_bt (rf_known w s) m) (i4 + 1)) from rf_set_n q30]) ?_
          exact ih4 (i4 + 1) (by omega) 
        · skip
          refine am_iload_n (pc := 33) C dX10_whoKnow_33 rfl ?_
          refine am_iconstN (pc := 34) (k := 1) C dX10_whoKnow_34 ?_
          refine am_iload_n (pc := 35) C dX10_whoKnow_35 rfl ?_
          refine am_ishl (pc := 36) C dX10_whoKnow_36 ?_
          refine am_ior (pc := 37) C dX10_whoKnow_37 ?_
          refine am_istore_n (pc := 38) (ls' := [(0, .ref 3), (1, .int (nI m)), (2, .int ((rf_set (fun s => am_bt (rf_known w s) m) i4) ||| ((nI 1) <<< ((nI i4) &&& 31)))), (3, .int (nI i4))]) C dX10_whoKnow_38 (by decide) rfl ?_
          refine am_iincN (pc := 39) (ls' := [(0, .ref 3), (1, .int (nI m)), (2, .int ((rf_set (fun s => am_bt (rf_known w s) m) i4) ||| ((nI 1) <<< ((nI i4) &&& 31)))), (3, .int (nI (i4 + 1)))]) C dX10_whoKnow_39 rfl (am_up1 _) (by decide) rfl ?_
          refine am_goto (pc := 42) (tgt := 4) C dX10_whoKnow_42 (by decide) ?_
          refine am_lsv (ls' := [(0, .ref 3), (1, .int (nI m)), (2, .int (rf_set (fun s => am_bt (rf_known w s) m) (i4 + 1))), (3, .int (nI (i4 + 1)))]) (by rw [show ((rf_set (fun s => am_bt (rf_known w s) m) i4) ||| ((nI 1) <<< ((nI i4) &&& 31))) = (rf_set (fun s => am_bt (rf_known w s) m) (i4 + 1)) from rf_set_t q30]) ?_
          exact ih4 (i4 + 1) (by omega) 
  exact L4 (rf_S w) 0 (by omega) 

set_option maxHeartbeats 400000 in
set_option maxRecDepth 100000 in
theorem c_X10_canUse {ad : Nat → Nat} {r : am_R} (hR : am_rs r) {h : am_H} (s : Nat) (m : Nat) (w : rf_W) (hV : rf_I w) (hLo : cl_Lo (h) 4 w) (hSc : cl_Sc (h) 25 w) (hs : s < rf_S w) (hm : m < 32)  : am_CM mX10_canUse 1 0 0 [.ref 3, .int (nI s), .int (nI m)] (am_VV ad) r h (am_po (some (.int (am_b (am_bt (rf_use w s) m)))) r h) := by
  refine am_CM.of (by decide +kernel) (Nat.le_of_ble_eq_true rfl) (fun X C T => ?_)
  show am_G X (am_VV ad) (0, 0) 0 [(0, .ref 3), (1, .int (nI s)), (2, .int (nI m))] [] r h
  have hM9 : rf_M w < 17 := hV.1.1.2
  have hS9 : rf_S w < 11 := hV.1.2.1.2
  have hO9 : rf_O w < 11 := hV.1.2.2.2
  refine am_aload_n (pc := 0) C dX10_canUse_0 rfl ?_
  refine am_getR (pc := 1) (j := 25) C dX10_canUse_1 f10_22 bn_3 sh_3 (rf_3_2 hR) ?_
  refine am_getR (pc := 4) (j := 30) C dX10_canUse_4 f10_64 bn_25 sh_25 (rf_25_9 hR) ?_
  refine am_iload_n (pc := 7) C dX10_canUse_7 rfl ?_
  refine am_callSNi (Y := mX11_pick) (pc := 8) (st := []) (As := [.ref 30, .int (nI s)]) (x := ((h 30) s)) (h2 := h) C dX10_canUse_8 k10_54 v_X11_pick rfl rfl (by decide) (Nat.zero_le _) (Nat.zero_le _) (Nat.le_of_ble_eq_true rfl) (c_X11_pick 30 s 10 bn_30 sh_30 (show s < 10 from by omega) (by decide)) ?_
  refine am_top (show ((h 30) s) = (rf_use w s) from (hSc.2.1 s (by omega)).2.2.2.2.1) ?_
  refine am_iload_n (pc := 11) C dX10_canUse_11 rfl ?_
  refine am_callSNi (Y := mX11_has) (pc := 12) (st := []) (As := [.int (rf_use w s), .int (nI m)]) (x := (am_b (am_bt (rf_use w s) m))) (h2 := h) C dX10_canUse_12 k10_67 v_X11_has rfl rfl (by decide) (Nat.zero_le _) (Nat.zero_le _) (Nat.le_of_ble_eq_true rfl) (c_X11_has (rf_use w s) m hm) ?_
  exact am_iretb T dX10_canUse_15 rfl (Nat.le_refl _) (Nat.le_refl _) rfl rfl rfl

set_option maxHeartbeats 400000 in
set_option maxRecDepth 100000 in
theorem c_X10_whoUse {ad : Nat → Nat} {r : am_R} (hR : am_rs r) {h : am_H} (m : Nat) (w : rf_W) (hV : rf_I w) (hLo : cl_Lo (h) 4 w) (hSc : cl_Sc (h) 25 w) (hm : m < 32)  : am_CM mX10_whoUse 2 0 0 [.ref 3, .int (nI m)] (am_VV ad) r h (am_po (some (.int (rf_users w m))) r h) := by
  refine am_CM.of (by decide +kernel) (Nat.le_of_ble_eq_true rfl) (fun X C T => ?_)
  show am_G X (am_VV ad) (0, 0) 0 [(0, .ref 3), (1, .int (nI m))] [] r h
  have hM9 : rf_M w < 17 := hV.1.1.2
  have hS9 : rf_S w < 11 := hV.1.2.1.2
  have hO9 : rf_O w < 11 := hV.1.2.2.2
  refine am_iconstN (pc := 0) (k := 0) C dX10_whoUse_0 ?_
  refine am_istore_n (pc := 1) (ls' := [(0, .ref 3), (1, .int (nI m)), (2, .int (nI 0))]) C dX10_whoUse_1 (by decide) rfl ?_
  refine am_iconstN (pc := 2) (k := 0) C dX10_whoUse_2 ?_
  refine am_istore_n (pc := 3) (ls' := [(0, .ref 3), (1, .int (nI m)), (2, .int (nI 0)), (3, .int (nI 0))]) C dX10_whoUse_3 (by decide) rfl ?_
  have L4 : ∀ (j4 i4 : Nat), i4 + j4 = rf_S w → am_G X (am_VV ad) (0, 0) 4 [(0, .ref 3), (1, .int (nI m)), (2, .int (rf_set (fun s => am_bt (rf_use w s) m) i4)), (3, .int (nI i4))] [] r h := by
    intro j4
    induction j4 with
    | zero =>
      intro i4 hi4 
      obtain rfl : i4 = rf_S w := by omega
      refine am_iload_n (pc := 4) C dX10_whoUse_4 rfl ?_
      refine am_aload_n (pc := 5) C dX10_whoUse_5 rfl ?_
      refine am_getR (pc := 6) (j := 4) C dX10_whoUse_6 f10_9 bn_3 sh_3 (rf_3_0 hR) ?_
      refine am_getI (pc := 9) C dX10_whoUse_9 f10_138 bn_4 sh_4 ?_
      refine am_top (show ((h 4) 2) = (nI (rf_S w)) from (hLo.1.2.2.1.trans hV.1.2.1.1)) ?_
      refine am_icmp_geN (pc := 12) (tgt := 36) C dX10_whoUse_12 (by decide) (by omega) (by omega) (fun q12 => ?_) (fun q12 => ?_)
      · skip
        refine am_iload_n (pc := 36) C dX10_whoUse_36 rfl ?_
        exact am_ireti T dX10_whoUse_37 rfl (Nat.le_refl _) (Nat.le_refl _) rfl rfl rfl
      · skip
        exact absurd q12 (by omega)
    | succ j4 ih4 =>
      intro i4 hi4 
      have hl4 : i4 < rf_S w := by omega
      refine am_iload_n (pc := 4) C dX10_whoUse_4 rfl ?_
      refine am_aload_n (pc := 5) C dX10_whoUse_5 rfl ?_
      refine am_getR (pc := 6) (j := 4) C dX10_whoUse_6 f10_9 bn_3 sh_3 (rf_3_0 hR) ?_
      refine am_getI (pc := 9) C dX10_whoUse_9 f10_138 bn_4 sh_4 ?_
      refine am_top (show ((h 4) 2) = (nI (rf_S w)) from (hLo.1.2.2.1.trans hV.1.2.1.1)) ?_
      refine am_icmp_geN (pc := 12) (tgt := 36) C dX10_whoUse_12 (by decide) (by omega) (by omega) (fun q12 => ?_) (fun q12 => ?_)
      · skip
        exact absurd q12 (by omega)
      · skip
        refine am_aload_n (pc := 15) C dX10_whoUse_15 rfl ?_
        refine am_iload_n (pc := 16) C dX10_whoUse_16 rfl ?_
        refine am_iload_n (pc := 17) C dX10_whoUse_17 rfl ?_
        refine am_callVi (Y := mX10_canUse) (pc := 18) (st := []) (As := [.int (nI i4), .int (nI m)]) (x := (am_b (am_bt (rf_use w i4) m))) (h2 := h) C dX10_whoUse_18 k10_195 v_X10_canUse rfl rfl bn_3 sh_3 ⟨by decide, rfl⟩ (by decide) (Nat.zero_le _) (Nat.zero_le _) (Nat.le_of_ble_eq_true rfl) (c_X10_canUse hR i4 m w hV hLo hSc (show i4 < rf_S w from by omega) hm) ?_
        refine am_if_eqB (pc := 21) (tgt := 30) C dX10_whoUse_21 (by decide) (fun q21 => ?_) (fun q21 => ?_)
        · skip
          refine am_iincN (pc := 30) (ls' := [(0, .ref 3), (1, .int (nI m)), (2, .int (rf_set (fun s => am_bt (rf_use w s) m) i4)), (3, .int (nI (i4 + 1)))]) C dX10_whoUse_30 rfl (am_up1 _) (by decide) rfl ?_
          refine am_goto (pc := 33) (tgt := 4) C dX10_whoUse_33 (by decide) ?_
          refine am_lsv (ls' := [(0, .ref 3), (1, .int (nI m)), (2, .int (rf_set (fun s => am_bt (rf_use w s) m) (i4 + 1))), (3, .int (nI (i4 + 1)))]) (by rw [show (rf_set (fun s => am_bt (rf_use w s) m) i4) = (rf_set (fun s => am_bt (rf_use w s) m) (i4 + 1)) from rf_set_n q21]) ?_
          exact ih4 (i4 + 1) (by omega) 
        · skip
          refine am_iload_n (pc := 24) C dX10_whoUse_24 rfl ?_
          refine am_iconstN (pc := 25) (k := 1) C dX10_whoUse_25 ?_
          refine am_iload_n (pc := 26) C dX10_whoUse_26 rfl ?_
          refine am_ishl (pc := 27) C dX10_whoUse_27 ?_
          refine am_ior (pc := 28) C dX10_whoUse_28 ?_
          refine am_istore_n (pc := 29) (ls' := [(0, .ref 3), (1, .int (nI m)), (2, .int ((rf_set (fun s => am_bt (rf_use w s) m) i4) ||| ((nI 1) <<< ((nI i4) &&& 31)))), (3, .int (nI i4))]) C dX10_whoUse_29 (by decide) rfl ?_
          refine am_iincN (pc := 30) (ls' := [(0, .ref 3), (1, .int (nI m)), (2, .int ((rf_set (fun s => am_bt (rf_use w s) m) i4) ||| ((nI 1) <<< ((nI i4) &&& 31)))), (3, .int (nI (i4 + 1)))]) C dX10_whoUse_30 rfl (am_up1 _) (by decide) rfl ?_
          refine am_goto (pc := 33) (tgt := 4) C dX10_whoUse_33 (by decide) ?_
          refine am_lsv (ls' := [(0, .ref 3), (1, .int (nI m)), (2, .int (rf_set (fun s => am_bt (rf_use w s) m) (i4 + 1))), (3, .int (nI (i4 + 1)))]) (by rw [show ((rf_set (fun s => am_bt (rf_use w s) m) i4) ||| ((nI 1) <<< ((nI i4) &&& 31))) = (rf_set (fun s => am_bt (rf_use w s) m) (i4 + 1)) from rf_set_t q21]) ?_
          exact ih4 (i4 + 1) (by omega) 
  exact L4 (rf_S w) 0 (by omega) 

set_option maxHeartbeats 400000 in
set_option maxRecDepth 100000 in
theorem c_X10_sideBits {ad : Nat → Nat} {r : am_R} (hR : am_rs r) {h : am_H} (d : Int32) (w : rf_W) (hV : rf_I w) (hLo : cl_Lo (h) 4 w) (hSc : cl_Sc (h) 25 w)  : am_CM mX10_sideBits 1 0 0 [.ref 3, .int d] (am_VV ad) r h (am_po (some (.int (rf_sideOf w d))) r h) := by
  refine am_CM.of (by decide +kernel) (Nat.le_of_ble_eq_true rfl) (fun X C T => ?_)
  show am_G X (am_VV ad) (0, 0) 0 [(0, .ref 3), (1, .int d)] [] r h
  have hM9 : rf_M w < 17 := hV.1.1.2
  have hS9 : rf_S w < 11 := hV.1.2.1.2
  have hO9 : rf_O w < 11 := hV.1.2.2.2
  refine am_iconstN (pc := 0) (k := 0) C dX10_sideBits_0 ?_
  refine am_istore_n (pc := 1) (ls' := [(0, .ref 3), (1, .int d), (2, .int (nI 0))]) C dX10_sideBits_1 (by decide) rfl ?_
  refine am_iconstN (pc := 2) (k := 0) C dX10_sideBits_2 ?_
  refine am_istore_n (pc := 3) (ls' := [(0, .ref 3), (1, .int d), (2, .int (nI 0)), (3, .int (nI 0))]) C dX10_sideBits_3 (by decide) rfl ?_
  have L4 : ∀ (j4 i4 : Nat), i4 + j4 = rf_S w → am_G X (am_VV ad) (0, 0) 4 [(0, .ref 3), (1, .int d), (2, .int (rf_set (fun s => decide (rf_of w s 0 = d)) i4)), (3, .int (nI i4))] [] r h := by
    intro j4
    induction j4 with
    | zero =>
      intro i4 hi4 
      obtain rfl : i4 = rf_S w := by omega
      refine am_iload_n (pc := 4) C dX10_sideBits_4 rfl ?_
      refine am_aload_n (pc := 5) C dX10_sideBits_5 rfl ?_
      refine am_getR (pc := 6) (j := 4) C dX10_sideBits_6 f10_9 bn_3 sh_3 (rf_3_0 hR) ?_
      refine am_getI (pc := 9) C dX10_sideBits_9 f10_138 bn_4 sh_4 ?_
      refine am_top (show ((h 4) 2) = (nI (rf_S w)) from (hLo.1.2.2.1.trans hV.1.2.1.1)) ?_
      refine am_icmp_geN (pc := 12) (tgt := 42) C dX10_sideBits_12 (by decide) (by omega) (by omega) (fun q12 => ?_) (fun q12 => ?_)
      · skip
        refine am_iload_n (pc := 42) C dX10_sideBits_42 rfl ?_
        exact am_ireti T dX10_sideBits_43 rfl (Nat.le_refl _) (Nat.le_refl _) rfl rfl rfl
      · skip
        exact absurd q12 (by omega)
    | succ j4 ih4 =>
      intro i4 hi4 
      have hl4 : i4 < rf_S w := by omega
      refine am_iload_n (pc := 4) C dX10_sideBits_4 rfl ?_
      refine am_aload_n (pc := 5) C dX10_sideBits_5 rfl ?_
      refine am_getR (pc := 6) (j := 4) C dX10_sideBits_6 f10_9 bn_3 sh_3 (rf_3_0 hR) ?_
      refine am_getI (pc := 9) C dX10_sideBits_9 f10_138 bn_4 sh_4 ?_
      refine am_top (show ((h 4) 2) = (nI (rf_S w)) from (hLo.1.2.2.1.trans hV.1.2.1.1)) ?_
      refine am_icmp_geN (pc := 12) (tgt := 42) C dX10_sideBits_12 (by decide) (by omega) (by omega) (fun q12 => ?_) (fun q12 => ?_)
      · skip
        exact absurd q12 (by omega)
      · skip
        refine am_aload_n (pc := 15) C dX10_sideBits_15 rfl ?_
        refine am_getR (pc := 16) (j := 4) C dX10_sideBits_16 f10_9 bn_3 sh_3 (rf_3_0 hR) ?_
        refine am_getR (pc := 19) (j := 10) C dX10_sideBits_19 f10_88 bn_4 sh_4 (rf_4_9 hR) ?_
        refine am_iload_n (pc := 22) C dX10_sideBits_22 rfl ?_
        refine am_callSNi (Y := mX11_pick) (pc := 23) (st := []) (As := [.ref 10, .int (nI i4)]) (x := ((h 10) i4)) (h2 := h) C dX10_sideBits_23 k10_54 v_X11_pick rfl rfl (by decide) (Nat.zero_le _) (Nat.zero_le _) (Nat.le_of_ble_eq_true rfl) (c_X11_pick 10 i4 10 bn_10 sh_10 (show i4 < 10 from by omega) (by decide)) ?_
        refine am_top (show ((h 10) i4) = (rf_of w i4 0) from (hLo.2.2.1 i4 (by omega)).1) ?_
        refine am_iload_n (pc := 26) C dX10_sideBits_26 rfl ?_
        refine am_icmp_ne (pc := 27) (tgt := 36) C dX10_sideBits_27 (by decide) (fun q27 => ?_) (fun q27 => ?_)
        · skip
          refine am_iincN (pc := 36) (ls' := [(0, .ref 3), (1, .int d), (2, .int (rf_set (fun s => decide (rf_of w s 0 = d)) i4)), (3, .int (nI (i4 + 1)))]) C dX10_sideBits_36 rfl (am_up1 _) (by decide) rfl ?_
          refine am_goto (pc := 39) (tgt := 4) C dX10_sideBits_39 (by decide) ?_
          refine am_lsv (ls' := [(0, .ref 3), (1, .int d), (2, .int (rf_set (fun s => decide (rf_of w s 0 = d)) (i4 + 1))), (3, .int (nI (i4 + 1)))]) (by rw [show (rf_set (fun s => decide (rf_of w s 0 = d)) i4) = (rf_set (fun s => decide (rf_of w s 0 = d)) (i4 + 1)) from rf_set_n (decide_eq_false q27)]) ?_
          exact ih4 (i4 + 1) (by omega) 
        · skip
          refine am_iload_n (pc := 30) C dX10_sideBits_30 rfl ?_
          refine am_iconstN (pc := 31) (k := 1) C dX10_sideBits_31 ?_
          refine am_iload_n (pc := 32) C dX10_sideBits_32 rfl ?_
          refine am_ishl (pc := 33) C dX10_sideBits_33 ?_
          refine am_ior (pc := 34) C dX10_sideBits_34 ?_
          refine am_istore_n (pc := 35) (ls' := [(0, .ref 3), (1, .int d), (2, .int ((rf_set (fun s => decide (rf_of w s 0 = d)) i4) ||| ((nI 1) <<< ((nI i4) &&& 31)))), (3, .int (nI i4))]) C dX10_sideBits_35 (by decide) rfl ?_
          refine am_iincN (pc := 36) (ls' := [(0, .ref 3), (1, .int d), (2, .int ((rf_set (fun s => decide (rf_of w s 0 = d)) i4) ||| ((nI 1) <<< ((nI i4) &&& 31)))), (3, .int (nI (i4 + 1)))]) C dX10_sideBits_36 rfl (am_up1 _) (by decide) rfl ?_
          refine am_goto (pc := 39) (tgt := 4) C dX10_sideBits_39 (by decide) ?_
          refine am_lsv (ls' := [(0, .ref 3), (1, .int d), (2, .int (rf_set (fun s => decide (rf_of w s 0 = d)) (i4 + 1))), (3, .int (nI (i4 + 1)))]) (by rw [show ((rf_set (fun s => decide (rf_of w s 0 = d)) i4) ||| ((nI 1) <<< ((nI i4) &&& 31))) = (rf_set (fun s => decide (rf_of w s 0 = d)) (i4 + 1)) from rf_set_t (decide_eq_true q27)]) ?_
          exact ih4 (i4 + 1) (by omega) 
  exact L4 (rf_S w) 0 (by omega) 

set_option maxHeartbeats 400000 in
set_option maxRecDepth 100000 in
theorem c_X10_usableBySide {ad : Nat → Nat} {r : am_R} (hR : am_rs r) {h : am_H} (d : Int32) (w : rf_W) (hV : rf_I w) (hLo : cl_Lo (h) 4 w) (hSc : cl_Sc (h) 25 w)  : am_CM mX10_usableBySide 1 0 0 [.ref 3, .int d] (am_VV ad) r h (am_po (some (.int (rf_usableBy w d))) r h) := by
  refine am_CM.of (by decide +kernel) (Nat.le_of_ble_eq_true rfl) (fun X C T => ?_)
  show am_G X (am_VV ad) (0, 0) 0 [(0, .ref 3), (1, .int d)] [] r h
  have hM9 : rf_M w < 17 := hV.1.1.2
  have hS9 : rf_S w < 11 := hV.1.2.1.2
  have hO9 : rf_O w < 11 := hV.1.2.2.2
  refine am_iconstN (pc := 0) (k := 0) C dX10_usableBySide_0 ?_
  refine am_istore_n (pc := 1) (ls' := [(0, .ref 3), (1, .int d), (2, .int (nI 0))]) C dX10_usableBySide_1 (by decide) rfl ?_
  refine am_iconstN (pc := 2) (k := 0) C dX10_usableBySide_2 ?_
  refine am_istore_n (pc := 3) (ls' := [(0, .ref 3), (1, .int d), (2, .int (nI 0)), (3, .int (nI 0))]) C dX10_usableBySide_3 (by decide) rfl ?_
  have L4 : ∀ (j4 i4 : Nat), i4 + j4 = rf_S w → am_G X (am_VV ad) (0, 0) 4 [(0, .ref 3), (1, .int d), (2, .int (rf_ub w d i4)), (3, .int (nI i4))] [] r h := by
    intro j4
    induction j4 with
    | zero =>
      intro i4 hi4 
      obtain rfl : i4 = rf_S w := by omega
      refine am_iload_n (pc := 4) C dX10_usableBySide_4 rfl ?_
      refine am_aload_n (pc := 5) C dX10_usableBySide_5 rfl ?_
      refine am_getR (pc := 6) (j := 4) C dX10_usableBySide_6 f10_9 bn_3 sh_3 (rf_3_0 hR) ?_
      refine am_getI (pc := 9) C dX10_usableBySide_9 f10_138 bn_4 sh_4 ?_
      refine am_top (show ((h 4) 2) = (nI (rf_S w)) from (hLo.1.2.2.1.trans hV.1.2.1.1)) ?_
      refine am_icmp_geN (pc := 12) (tgt := 50) C dX10_usableBySide_12 (by decide) (by omega) (by omega) (fun q12 => ?_) (fun q12 => ?_)
      · skip
        refine am_iload_n (pc := 50) C dX10_usableBySide_50 rfl ?_
        exact am_ireti T dX10_usableBySide_51 rfl (Nat.le_refl _) (Nat.le_refl _) rfl rfl rfl
      · skip
        exact absurd q12 (by omega)
    | succ j4 ih4 =>
      intro i4 hi4 
      have hl4 : i4 < rf_S w := by omega
      refine am_iload_n (pc := 4) C dX10_usableBySide_4 rfl ?_
      refine am_aload_n (pc := 5) C dX10_usableBySide_5 rfl ?_
      refine am_getR (pc := 6) (j := 4) C dX10_usableBySide_6 f10_9 bn_3 sh_3 (rf_3_0 hR) ?_
      refine am_getI (pc := 9) C dX10_usableBySide_9 f10_138 bn_4 sh_4 ?_
      refine am_top (show ((h 4) 2) = (nI (rf_S w)) from (hLo.1.2.2.1.trans hV.1.2.1.1)) ?_
      refine am_icmp_geN (pc := 12) (tgt := 50) C dX10_usableBySide_12 (by decide) (by omega) (by omega) (fun q12 => ?_) (fun q12 => ?_)
      · skip
        exact absurd q12 (by omega)
      · skip
        refine am_aload_n (pc := 15) C dX10_usableBySide_15 rfl ?_
        refine am_getR (pc := 16) (j := 4) C dX10_usableBySide_16 f10_9 bn_3 sh_3 (rf_3_0 hR) ?_
        refine am_getR (pc := 19) (j := 10) C dX10_usableBySide_19 f10_88 bn_4 sh_4 (rf_4_9 hR) ?_
        refine am_iload_n (pc := 22) C dX10_usableBySide_22 rfl ?_
        refine am_callSNi (Y := mX11_pick) (pc := 23) (st := []) (As := [.ref 10, .int (nI i4)]) (x := ((h 10) i4)) (h2 := h) C dX10_usableBySide_23 k10_54 v_X11_pick rfl rfl (by decide) (Nat.zero_le _) (Nat.zero_le _) (Nat.le_of_ble_eq_true rfl) (c_X11_pick 10 i4 10 bn_10 sh_10 (show i4 < 10 from by omega) (by decide)) ?_
        refine am_top (show ((h 10) i4) = (rf_of w i4 0) from (hLo.2.2.1 i4 (by omega)).1) ?_
        refine am_iload_n (pc := 26) C dX10_usableBySide_26 rfl ?_
        refine am_icmp_ne (pc := 27) (tgt := 44) C dX10_usableBySide_27 (by decide) (fun q27 => ?_) (fun q27 => ?_)
        · skip
          refine am_iincN (pc := 44) (ls' := [(0, .ref 3), (1, .int d), (2, .int (rf_ub w d i4)), (3, .int (nI (i4 + 1)))]) C dX10_usableBySide_44 rfl (am_up1 _) (by decide) rfl ?_
          refine am_goto (pc := 47) (tgt := 4) C dX10_usableBySide_47 (by decide) ?_
          refine am_lsv (ls' := [(0, .ref 3), (1, .int d), (2, .int (rf_ub w d (i4 + 1))), (3, .int (nI (i4 + 1)))]) (by rw [show (rf_ub w d i4) = (rf_ub w d (i4 + 1)) from (by rw [rf_ub, if_neg q27]; exact (rf_or_n0 _).symm)]) ?_
          exact ih4 (i4 + 1) (by omega) 
        · skip
          refine am_iload_n (pc := 30) C dX10_usableBySide_30 rfl ?_
          refine am_aload_n (pc := 31) C dX10_usableBySide_31 rfl ?_
          refine am_getR (pc := 32) (j := 25) C dX10_usableBySide_32 f10_22 bn_3 sh_3 (rf_3_2 hR) ?_
          refine am_getR (pc := 35) (j := 30) C dX10_usableBySide_35 f10_64 bn_25 sh_25 (rf_25_9 hR) ?_
          refine am_iload_n (pc := 38) C dX10_usableBySide_38 rfl ?_
          refine am_callSNi (Y := mX11_pick) (pc := 39) (st := [.int (rf_ub w d i4)]) (As := [.ref 30, .int (nI i4)]) (x := ((h 30) i4)) (h2 := h) C dX10_usableBySide_39 k10_54 v_X11_pick rfl rfl (by decide) (Nat.zero_le _) (Nat.zero_le _) (Nat.le_of_ble_eq_true rfl) (c_X11_pick 30 i4 10 bn_30 sh_30 (show i4 < 10 from by omega) (by decide)) ?_
          refine am_top (show ((h 30) i4) = (rf_use w i4) from (hSc.2.1 i4 (by omega)).2.2.2.2.1) ?_
          refine am_ior (pc := 42) C dX10_usableBySide_42 ?_
          refine am_istore_n (pc := 43) (ls' := [(0, .ref 3), (1, .int d), (2, .int ((rf_ub w d i4) ||| (rf_use w i4))), (3, .int (nI i4))]) C dX10_usableBySide_43 (by decide) rfl ?_
          refine am_iincN (pc := 44) (ls' := [(0, .ref 3), (1, .int d), (2, .int ((rf_ub w d i4) ||| (rf_use w i4))), (3, .int (nI (i4 + 1)))]) C dX10_usableBySide_44 rfl (am_up1 _) (by decide) rfl ?_
          refine am_goto (pc := 47) (tgt := 4) C dX10_usableBySide_47 (by decide) ?_
          refine am_lsv (ls' := [(0, .ref 3), (1, .int d), (2, .int (rf_ub w d (i4 + 1))), (3, .int (nI (i4 + 1)))]) (by rw [show ((rf_ub w d i4) ||| (rf_use w i4)) = (rf_ub w d (i4 + 1)) from (by rw [rf_ub, if_pos q27])]) ?_
          exact ih4 (i4 + 1) (by omega) 
  exact L4 (rf_S w) 0 (by omega) 

set_option maxHeartbeats 400000 in
set_option maxRecDepth 100000 in
theorem c_X10_usableInAll {ad : Nat → Nat} {r : am_R} (hR : am_rs r) {h : am_H} (d : Int32) (w : rf_W) (hV : rf_I w) (hLo : cl_Lo (h) 4 w) (hSc : cl_Sc (h) 25 w)  : am_CM mX10_usableInAll 1 0 0 [.ref 3, .int d] (am_VV ad) r h (am_po (some (.int (rf_ui w d (rf_S w)))) r h) := by
  refine am_CM.of (by decide +kernel) (Nat.le_of_ble_eq_true rfl) (fun X C T => ?_)
  show am_G X (am_VV ad) (0, 0) 0 [(0, .ref 3), (1, .int d)] [] r h
  have hM9 : rf_M w < 17 := hV.1.1.2
  have hS9 : rf_S w < 11 := hV.1.2.1.2
  have hO9 : rf_O w < 11 := hV.1.2.2.2
  refine am_iconstN (pc := 0) (k := 0) C dX10_usableInAll_0 ?_
  refine am_istore_n (pc := 1) (ls' := [(0, .ref 3), (1, .int d), (2, .int (nI 0))]) C dX10_usableInAll_1 (by decide) rfl ?_
  refine am_iconstN (pc := 2) (k := 0) C dX10_usableInAll_2 ?_
  refine am_istore_n (pc := 3) (ls' := [(0, .ref 3), (1, .int d), (2, .int (nI 0)), (3, .int (nI 0))]) C dX10_usableInAll_3 (by decide) rfl ?_
  have L4 : ∀ (j4 i4 : Nat), i4 + j4 = rf_S w → am_G X (am_VV ad) (0, 0) 4 [(0, .ref 3), (1, .int d), (2, .int (rf_ui w d i4)), (3, .int (nI i4))] [] r h := by
    intro j4
    induction j4 with
    | zero =>
      intro i4 hi4 
      obtain rfl : i4 = rf_S w := by omega
      refine am_iload_n (pc := 4) C dX10_usableInAll_4 rfl ?_
      refine am_aload_n (pc := 5) C dX10_usableInAll_5 rfl ?_
      refine am_getR (pc := 6) (j := 4) C dX10_usableInAll_6 f10_9 bn_3 sh_3 (rf_3_0 hR) ?_
      refine am_getI (pc := 9) C dX10_usableInAll_9 f10_138 bn_4 sh_4 ?_
      refine am_top (show ((h 4) 2) = (nI (rf_S w)) from (hLo.1.2.2.1.trans hV.1.2.1.1)) ?_
      refine am_icmp_geN (pc := 12) (tgt := 53) C dX10_usableInAll_12 (by decide) (by omega) (by omega) (fun q12 => ?_) (fun q12 => ?_)
      · skip
        refine am_iload_n (pc := 53) C dX10_usableInAll_53 rfl ?_
        exact am_ireti T dX10_usableInAll_54 rfl (Nat.le_refl _) (Nat.le_refl _) rfl rfl rfl
      · skip
        exact absurd q12 (by omega)
    | succ j4 ih4 =>
      intro i4 hi4 
      have hl4 : i4 < rf_S w := by omega
      refine am_iload_n (pc := 4) C dX10_usableInAll_4 rfl ?_
      refine am_aload_n (pc := 5) C dX10_usableInAll_5 rfl ?_
      refine am_getR (pc := 6) (j := 4) C dX10_usableInAll_6 f10_9 bn_3 sh_3 (rf_3_0 hR) ?_
      refine am_getI (pc := 9) C dX10_usableInAll_9 f10_138 bn_4 sh_4 ?_
      refine am_top (show ((h 4) 2) = (nI (rf_S w)) from (hLo.1.2.2.1.trans hV.1.2.1.1)) ?_
      refine am_icmp_geN (pc := 12) (tgt := 53) C dX10_usableInAll_12 (by decide) (by omega) (by omega) (fun q12 => ?_) (fun q12 => ?_)
      · skip
        exact absurd q12 (by omega)
      · skip
        refine am_aload_n (pc := 15) C dX10_usableInAll_15 rfl ?_
        refine am_getR (pc := 16) (j := 4) C dX10_usableInAll_16 f10_9 bn_3 sh_3 (rf_3_0 hR) ?_
        refine am_getR (pc := 19) (j := 10) C dX10_usableInAll_19 f10_88 bn_4 sh_4 (rf_4_9 hR) ?_
        refine am_iload_n (pc := 22) C dX10_usableInAll_22 rfl ?_
        refine am_callSNi (Y := mX11_pick) (pc := 23) (st := []) (As := [.ref 10, .int (nI i4)]) (x := ((h 10) i4)) (h2 := h) C dX10_usableInAll_23 k10_54 v_X11_pick rfl rfl (by decide) (Nat.zero_le _) (Nat.zero_le _) (Nat.le_of_ble_eq_true rfl) (c_X11_pick 10 i4 10 bn_10 sh_10 (show i4 < 10 from by omega) (by decide)) ?_
        refine am_top (show ((h 10) i4) = (rf_of w i4 0) from (hLo.2.2.1 i4 (by omega)).1) ?_
        refine am_iload_n (pc := 26) C dX10_usableInAll_26 rfl ?_
        refine am_icmp_ne (pc := 27) (tgt := 47) C dX10_usableInAll_27 (by decide) (fun q27 => ?_) (fun q27 => ?_)
        · skip
          refine am_iincN (pc := 47) (ls' := [(0, .ref 3), (1, .int d), (2, .int (rf_ui w d i4)), (3, .int (nI (i4 + 1)))]) C dX10_usableInAll_47 rfl (am_up1 _) (by decide) rfl ?_
          refine am_goto (pc := 50) (tgt := 4) C dX10_usableInAll_50 (by decide) ?_
          refine am_lsv (ls' := [(0, .ref 3), (1, .int d), (2, .int (rf_ui w d (i4 + 1))), (3, .int (nI (i4 + 1)))]) (by rw [show (rf_ui w d i4) = (rf_ui w d (i4 + 1)) from (by rw [rf_ui, if_neg q27]; exact (Int32.add_zero _).symm)]) ?_
          exact ih4 (i4 + 1) (by omega) 
        · skip
          refine am_iload_n (pc := 30) C dX10_usableInAll_30 rfl ?_
          refine am_aload_n (pc := 31) C dX10_usableInAll_31 rfl ?_
          refine am_getR (pc := 32) (j := 25) C dX10_usableInAll_32 f10_22 bn_3 sh_3 (rf_3_2 hR) ?_
          refine am_getR (pc := 35) (j := 30) C dX10_usableInAll_35 f10_64 bn_25 sh_25 (rf_25_9 hR) ?_
          refine am_iload_n (pc := 38) C dX10_usableInAll_38 rfl ?_
          refine am_callSNi (Y := mX11_pick) (pc := 39) (st := [.int (rf_ui w d i4)]) (As := [.ref 30, .int (nI i4)]) (x := ((h 30) i4)) (h2 := h) C dX10_usableInAll_39 k10_54 v_X11_pick rfl rfl (by decide) (Nat.zero_le _) (Nat.zero_le _) (Nat.le_of_ble_eq_true rfl) (c_X11_pick 30 i4 10 bn_30 sh_30 (show i4 < 10 from by omega) (by decide)) ?_
          refine am_top (show ((h 30) i4) = (rf_use w i4) from (hSc.2.1 i4 (by omega)).2.2.2.2.1) ?_
          refine am_callSi (Y := mJ6_bitCount_0f7a4) (pc := 42) (st := [.int (rf_ui w d i4)]) (As := [.int (rf_use w i4)]) (x := (rf_pc (rf_use w i4))) (h2 := h) C dX10_usableInAll_42 k10_107 v_J6_bitCount_0f7a4 rfl rfl (by decide) (Nat.zero_le _) (Nat.zero_le _) (Nat.le_of_ble_eq_true rfl) (c_J6_bitCount_0f7a4 hR (rf_use w i4)) ?_
          refine am_iadd (pc := 45) C dX10_usableInAll_45 ?_
          refine am_istore_n (pc := 46) (ls' := [(0, .ref 3), (1, .int d), (2, .int ((rf_ui w d i4) + (rf_pc (rf_use w i4)))), (3, .int (nI i4))]) C dX10_usableInAll_46 (by decide) rfl ?_
          refine am_iincN (pc := 47) (ls' := [(0, .ref 3), (1, .int d), (2, .int ((rf_ui w d i4) + (rf_pc (rf_use w i4)))), (3, .int (nI (i4 + 1)))]) C dX10_usableInAll_47 rfl (am_up1 _) (by decide) rfl ?_
          refine am_goto (pc := 50) (tgt := 4) C dX10_usableInAll_50 (by decide) ?_
          refine am_lsv (ls' := [(0, .ref 3), (1, .int d), (2, .int (rf_ui w d (i4 + 1))), (3, .int (nI (i4 + 1)))]) (by rw [show ((rf_ui w d i4) + (rf_pc (rf_use w i4))) = (rf_ui w d (i4 + 1)) from (by rw [rf_ui, if_pos q27])]) ?_
          exact ih4 (i4 + 1) (by omega) 
  exact L4 (rf_S w) 0 (by omega) 

set_option maxHeartbeats 400000 in
set_option maxRecDepth 100000 in
theorem c_X10_knownInAll {ad : Nat → Nat} {r : am_R} (hR : am_rs r) {h : am_H}  (w : rf_W) (hV : rf_I w) (hLo : cl_Lo (h) 4 w) (hSc : cl_Sc (h) 25 w)  : am_CM mX10_knownInAll 1 0 0 [.ref 3] (am_VV ad) r h (am_po (some (.int (nI (rf_ak w (rf_S w))))) r h) := by
  refine am_CM.of (by decide +kernel) (Nat.le_of_ble_eq_true rfl) (fun X C T => ?_)
  show am_G X (am_VV ad) (0, 0) 0 [(0, .ref 3)] [] r h
  have hM9 : rf_M w < 17 := hV.1.1.2
  have hS9 : rf_S w < 11 := hV.1.2.1.2
  have hO9 : rf_O w < 11 := hV.1.2.2.2
  refine am_iconstN (pc := 0) (k := 0) C dX10_knownInAll_0 ?_
  refine am_istore_n (pc := 1) (ls' := [(0, .ref 3), (1, .int (nI 0))]) C dX10_knownInAll_1 (by decide) rfl ?_
  refine am_iconstN (pc := 2) (k := 0) C dX10_knownInAll_2 ?_
  refine am_istore_n (pc := 3) (ls' := [(0, .ref 3), (1, .int (nI 0)), (2, .int (nI 0))]) C dX10_knownInAll_3 (by decide) rfl ?_
  have L4 : ∀ (j4 i4 : Nat), i4 + j4 = rf_S w → am_G X (am_VV ad) (0, 0) 4 [(0, .ref 3), (1, .int (nI (rf_ak w i4))), (2, .int (nI i4))] [] r h := by
    intro j4
    induction j4 with
    | zero =>
      intro i4 hi4 
      obtain rfl : i4 = rf_S w := by omega
      refine am_iload_n (pc := 4) C dX10_knownInAll_4 rfl ?_
      refine am_aload_n (pc := 5) C dX10_knownInAll_5 rfl ?_
      refine am_getR (pc := 6) (j := 4) C dX10_knownInAll_6 f10_9 bn_3 sh_3 (rf_3_0 hR) ?_
      refine am_getI (pc := 9) C dX10_knownInAll_9 f10_138 bn_4 sh_4 ?_
      refine am_top (show ((h 4) 2) = (nI (rf_S w)) from (hLo.1.2.2.1.trans hV.1.2.1.1)) ?_
      refine am_icmp_geN (pc := 12) (tgt := 35) C dX10_knownInAll_12 (by decide) (by omega) (by omega) (fun q12 => ?_) (fun q12 => ?_)
      · skip
        refine am_iload_n (pc := 35) C dX10_knownInAll_35 rfl ?_
        exact am_ireti T dX10_knownInAll_36 rfl (Nat.le_refl _) (Nat.le_refl _) rfl rfl rfl
      · skip
        exact absurd q12 (by omega)
    | succ j4 ih4 =>
      intro i4 hi4 
      have hl4 : i4 < rf_S w := by omega
      refine am_iload_n (pc := 4) C dX10_knownInAll_4 rfl ?_
      refine am_aload_n (pc := 5) C dX10_knownInAll_5 rfl ?_
      refine am_getR (pc := 6) (j := 4) C dX10_knownInAll_6 f10_9 bn_3 sh_3 (rf_3_0 hR) ?_
      refine am_getI (pc := 9) C dX10_knownInAll_9 f10_138 bn_4 sh_4 ?_
      refine am_top (show ((h 4) 2) = (nI (rf_S w)) from (hLo.1.2.2.1.trans hV.1.2.1.1)) ?_
      refine am_icmp_geN (pc := 12) (tgt := 35) C dX10_knownInAll_12 (by decide) (by omega) (by omega) (fun q12 => ?_) (fun q12 => ?_)
      · skip
        exact absurd q12 (by omega)
      · skip
        refine am_iload_n (pc := 15) C dX10_knownInAll_15 rfl ?_
        refine am_aload_n (pc := 16) C dX10_knownInAll_16 rfl ?_
        refine am_getR (pc := 17) (j := 25) C dX10_knownInAll_17 f10_22 bn_3 sh_3 (rf_3_2 hR) ?_
        refine am_getR (pc := 20) (j := 28) C dX10_knownInAll_20 f10_58 bn_25 sh_25 (rf_25_7 hR) ?_
        refine am_iload_n (pc := 23) C dX10_knownInAll_23 rfl ?_
        refine am_callSNi (Y := mX11_pick) (pc := 24) (st := [.int (nI (rf_ak w i4))]) (As := [.ref 28, .int (nI i4)]) (x := ((h 28) i4)) (h2 := h) C dX10_knownInAll_24 k10_54 v_X11_pick rfl rfl (by decide) (Nat.zero_le _) (Nat.zero_le _) (Nat.le_of_ble_eq_true rfl) (c_X11_pick 28 i4 10 bn_28 sh_28 (show i4 < 10 from by omega) (by decide)) ?_
        refine am_top (show ((h 28) i4) = (nI (rf_kn w i4)) from ((hSc.2.1 i4 (by omega)).2.2.1.trans (hV.2.1 i4 (by omega)).2.2.2.2.1.1)) ?_
        refine am_iaddN (pc := 27) C dX10_knownInAll_27 ?_
        refine am_istore_n (pc := 28) (ls' := [(0, .ref 3), (1, .int (nI ((rf_ak w i4) + (rf_kn w i4)))), (2, .int (nI i4))]) C dX10_knownInAll_28 (by decide) rfl ?_
        refine am_iincN (pc := 29) (ls' := [(0, .ref 3), (1, .int (nI ((rf_ak w i4) + (rf_kn w i4)))), (2, .int (nI (i4 + 1)))]) C dX10_knownInAll_29 rfl (am_up1 _) (by decide) rfl ?_
        refine am_goto (pc := 32) (tgt := 4) C dX10_knownInAll_32 (by decide) ?_
        refine am_lsv (ls' := [(0, .ref 3), (1, .int (nI (rf_ak w (i4 + 1)))), (2, .int (nI (i4 + 1)))]) (by rw [show (nI ((rf_ak w i4) + (rf_kn w i4))) = (nI (rf_ak w (i4 + 1))) from rfl]) ?_
        exact ih4 (i4 + 1) (by omega) 
  exact L4 (rf_S w) 0 (by omega) 

set_option maxHeartbeats 400000 in
set_option maxRecDepth 100000 in
theorem c_X10_obeyedOrders {ad : Nat → Nat} {r : am_R} (hR : am_rs r) {h : am_H}  (w : rf_W) (hV : rf_I w) (hLo : cl_Lo (h) 4 w) (hSc : cl_Sc (h) 25 w)  : am_CM mX10_obeyedOrders 1 0 0 [.ref 3] (am_VV ad) r h (am_po (some (.int (rf_obeyed w 12))) r h) := by
  refine am_CM.of (by decide +kernel) (Nat.le_of_ble_eq_true rfl) (fun X C T => ?_)
  show am_G X (am_VV ad) (0, 0) 0 [(0, .ref 3)] [] r h
  have hM9 : rf_M w < 17 := hV.1.1.2
  have hS9 : rf_S w < 11 := hV.1.2.1.2
  have hO9 : rf_O w < 11 := hV.1.2.2.2
  refine am_iconstN (pc := 0) (k := 0) C dX10_obeyedOrders_0 ?_
  refine am_istore_n (pc := 1) (ls' := [(0, .ref 3), (1, .int (nI 0))]) C dX10_obeyedOrders_1 (by decide) rfl ?_
  refine am_iconstN (pc := 2) (k := 0) C dX10_obeyedOrders_2 ?_
  refine am_istore_n (pc := 3) (ls' := [(0, .ref 3), (1, .int (nI 0)), (2, .int (nI 0))]) C dX10_obeyedOrders_3 (by decide) rfl ?_
  have L4 : ∀ (j4 i4 : Nat), i4 + j4 = rf_O w → am_G X (am_VV ad) (0, 0) 4 [(0, .ref 3), (1, .int (rf_set (fun o => decide (rf_ord w o 1 &&& (rf_use w (rf_nat (rf_ord w o 0)) ^^^ (-1)) = 0)) i4)), (2, .int (nI i4))] [] r h := by
    intro j4
    induction j4 with
    | zero =>
      intro i4 hi4 
      obtain rfl : i4 = rf_O w := by omega
      refine am_iload_n (pc := 4) C dX10_obeyedOrders_4 rfl ?_
      refine am_aload_n (pc := 5) C dX10_obeyedOrders_5 rfl ?_
      refine am_getR (pc := 6) (j := 4) C dX10_obeyedOrders_6 f10_9 bn_3 sh_3 (rf_3_0 hR) ?_
      refine am_getI (pc := 9) C dX10_obeyedOrders_9 f10_198 bn_4 sh_4 ?_
      refine am_top (show ((h 4) 3) = (nI (rf_O w)) from (hLo.1.2.2.2.trans hV.1.2.2.1)) ?_
      refine am_icmp_geN (pc := 12) (tgt := 67) C dX10_obeyedOrders_12 (by decide) (by omega) (by omega) (fun q12 => ?_) (fun q12 => ?_)
      · skip
        refine am_iload_n (pc := 67) C dX10_obeyedOrders_67 rfl ?_
        exact am_ireti T dX10_obeyedOrders_68 rfl (Nat.le_refl _) (Nat.le_refl _) rfl rfl rfl
      · skip
        exact absurd q12 (by omega)
    | succ j4 ih4 =>
      intro i4 hi4 
      have hl4 : i4 < rf_O w := by omega
      have ho9 := (hV.2.2.2.1 i4 hl4).1.2
      refine am_iload_n (pc := 4) C dX10_obeyedOrders_4 rfl ?_
      refine am_aload_n (pc := 5) C dX10_obeyedOrders_5 rfl ?_
      refine am_getR (pc := 6) (j := 4) C dX10_obeyedOrders_6 f10_9 bn_3 sh_3 (rf_3_0 hR) ?_
      refine am_getI (pc := 9) C dX10_obeyedOrders_9 f10_198 bn_4 sh_4 ?_
      refine am_top (show ((h 4) 3) = (nI (rf_O w)) from (hLo.1.2.2.2.trans hV.1.2.2.1)) ?_
      refine am_icmp_geN (pc := 12) (tgt := 67) C dX10_obeyedOrders_12 (by decide) (by omega) (by omega) (fun q12 => ?_) (fun q12 => ?_)
      · skip
        exact absurd q12 (by omega)
      · skip
        refine am_aload_n (pc := 15) C dX10_obeyedOrders_15 rfl ?_
        refine am_getR (pc := 16) (j := 25) C dX10_obeyedOrders_16 f10_22 bn_3 sh_3 (rf_3_2 hR) ?_
        refine am_getR (pc := 19) (j := 30) C dX10_obeyedOrders_19 f10_64 bn_25 sh_25 (rf_25_9 hR) ?_
        refine am_aload_n (pc := 22) C dX10_obeyedOrders_22 rfl ?_
        refine am_getR (pc := 23) (j := 4) C dX10_obeyedOrders_23 f10_9 bn_3 sh_3 (rf_3_0 hR) ?_
        refine am_getR (pc := 26) (j := 14) C dX10_obeyedOrders_26 f10_201 bn_4 sh_4 (rf_4_13 hR) ?_
        refine am_iload_n (pc := 29) C dX10_obeyedOrders_29 rfl ?_
        refine am_callSNi (Y := mX11_pick) (pc := 30) (st := [.ref 30]) (As := [.ref 14, .int (nI i4)]) (x := ((h 14) i4)) (h2 := h) C dX10_obeyedOrders_30 k10_54 v_X11_pick rfl rfl (by decide) (Nat.zero_le _) (Nat.zero_le _) (Nat.le_of_ble_eq_true rfl) (c_X11_pick 14 i4 10 bn_14 sh_14 (show i4 < 10 from by omega) (by decide)) ?_
        refine am_top (show ((h 14) i4) = (nI (rf_nat (rf_ord w i4 0))) from ((hLo.2.2.2.1 i4 (by omega)).1.trans (hV.2.2.2.1 i4 (by omega)).1.1)) ?_
        refine am_callSNi (Y := mX11_pick) (pc := 33) (st := []) (As := [.ref 30, .int (nI (rf_nat (rf_ord w i4 0)))]) (x := ((h 30) (rf_nat (rf_ord w i4 0)))) (h2 := h) C dX10_obeyedOrders_33 k10_54 v_X11_pick rfl rfl (by decide) (Nat.zero_le _) (Nat.zero_le _) (Nat.le_of_ble_eq_true rfl) (c_X11_pick 30 (rf_nat (rf_ord w i4 0)) 10 bn_30 sh_30 (show rf_nat (rf_ord w i4 0) < 10 from by omega) (by decide)) ?_
        refine am_top (show ((h 30) (rf_nat (rf_ord w i4 0))) = (rf_use w (rf_nat (rf_ord w i4 0))) from (hSc.2.1 (rf_nat (rf_ord w i4 0)) (by omega)).2.2.2.2.1) ?_
        refine am_istore_n (pc := 36) (ls' := [(0, .ref 3), (1, .int (rf_set (fun o => decide (rf_ord w o 1 &&& (rf_use w (rf_nat (rf_ord w o 0)) ^^^ (-1)) = 0)) i4)), (2, .int (nI i4)), (3, .int (rf_use w (rf_nat (rf_ord w i4 0))))]) C dX10_obeyedOrders_36 (by decide) rfl ?_
        refine am_aload_n (pc := 37) C dX10_obeyedOrders_37 rfl ?_
        refine am_getR (pc := 38) (j := 4) C dX10_obeyedOrders_38 f10_9 bn_3 sh_3 (rf_3_0 hR) ?_
        refine am_getR (pc := 41) (j := 15) C dX10_obeyedOrders_41 f10_204 bn_4 sh_4 (rf_4_14 hR) ?_
        refine am_iload_n (pc := 44) C dX10_obeyedOrders_44 rfl ?_
        refine am_callSNi (Y := mX11_pick) (pc := 45) (st := []) (As := [.ref 15, .int (nI i4)]) (x := ((h 15) i4)) (h2 := h) C dX10_obeyedOrders_45 k10_54 v_X11_pick rfl rfl (by decide) (Nat.zero_le _) (Nat.zero_le _) (Nat.le_of_ble_eq_true rfl) (c_X11_pick 15 i4 10 bn_15 sh_15 (show i4 < 10 from by omega) (by decide)) ?_
        refine am_top (show ((h 15) i4) = (rf_ord w i4 1) from (hLo.2.2.2.1 i4 (by omega)).2) ?_
        refine am_iload_n (pc := 48) C dX10_obeyedOrders_48 rfl ?_
        refine am_iconst (pc := 49) (v := -1) C dX10_obeyedOrders_49 rfl ?_
        refine am_ixor (pc := 50) C dX10_obeyedOrders_50 ?_
        refine am_iand (pc := 51) C dX10_obeyedOrders_51 ?_
        refine am_if_ne (pc := 52) (tgt := 61) C dX10_obeyedOrders_52 (by decide) (fun q52 => ?_) (fun q52 => ?_)
        · skip
          refine am_iincN (pc := 61) (ls' := [(0, .ref 3), (1, .int (rf_set (fun o => decide (rf_ord w o 1 &&& (rf_use w (rf_nat (rf_ord w o 0)) ^^^ (-1)) = 0)) i4)), (2, .int (nI (i4 + 1))), (3, .int (rf_use w (rf_nat (rf_ord w i4 0))))]) C dX10_obeyedOrders_61 rfl (am_up1 _) (by decide) rfl ?_
          refine am_goto (pc := 64) (tgt := 4) C dX10_obeyedOrders_64 (by decide) ?_
          refine am_sub (ls' := [(0, .ref 3), (1, .int (rf_set (fun o => decide (rf_ord w o 1 &&& (rf_use w (rf_nat (rf_ord w o 0)) ^^^ (-1)) = 0)) i4)), (2, .int (nI (i4 + 1)))]) (by intro q hq; simp only [List.mem_cons, List.not_mem_nil, or_false] at hq ⊢; rcases hq with rfl | rfl | rfl <;> simp) ?_
          refine am_lsv (ls' := [(0, .ref 3), (1, .int (rf_set (fun o => decide (rf_ord w o 1 &&& (rf_use w (rf_nat (rf_ord w o 0)) ^^^ (-1)) = 0)) (i4 + 1))), (2, .int (nI (i4 + 1)))]) (by rw [show (rf_set (fun o => decide (rf_ord w o 1 &&& (rf_use w (rf_nat (rf_ord w o 0)) ^^^ (-1)) = 0)) i4) = (rf_set (fun o => decide (rf_ord w o 1 &&& (rf_use w (rf_nat (rf_ord w o 0)) ^^^ (-1)) = 0)) (i4 + 1)) from rf_set_n (decide_eq_false q52)]) ?_
          exact ih4 (i4 + 1) (by omega) 
        · skip
          refine am_iload_n (pc := 55) C dX10_obeyedOrders_55 rfl ?_
          refine am_iconstN (pc := 56) (k := 1) C dX10_obeyedOrders_56 ?_
          refine am_iload_n (pc := 57) C dX10_obeyedOrders_57 rfl ?_
          refine am_ishl (pc := 58) C dX10_obeyedOrders_58 ?_
          refine am_ior (pc := 59) C dX10_obeyedOrders_59 ?_
          refine am_istore_n (pc := 60) (ls' := [(0, .ref 3), (1, .int ((rf_set (fun o => decide (rf_ord w o 1 &&& (rf_use w (rf_nat (rf_ord w o 0)) ^^^ (-1)) = 0)) i4) ||| ((nI 1) <<< ((nI i4) &&& 31)))), (2, .int (nI i4)), (3, .int (rf_use w (rf_nat (rf_ord w i4 0))))]) C dX10_obeyedOrders_60 (by decide) rfl ?_
          refine am_iincN (pc := 61) (ls' := [(0, .ref 3), (1, .int ((rf_set (fun o => decide (rf_ord w o 1 &&& (rf_use w (rf_nat (rf_ord w o 0)) ^^^ (-1)) = 0)) i4) ||| ((nI 1) <<< ((nI i4) &&& 31)))), (2, .int (nI (i4 + 1))), (3, .int (rf_use w (rf_nat (rf_ord w i4 0))))]) C dX10_obeyedOrders_61 rfl (am_up1 _) (by decide) rfl ?_
          refine am_goto (pc := 64) (tgt := 4) C dX10_obeyedOrders_64 (by decide) ?_
          refine am_sub (ls' := [(0, .ref 3), (1, .int ((rf_set (fun o => decide (rf_ord w o 1 &&& (rf_use w (rf_nat (rf_ord w o 0)) ^^^ (-1)) = 0)) i4) ||| ((nI 1) <<< ((nI i4) &&& 31)))), (2, .int (nI (i4 + 1)))]) (by intro q hq; simp only [List.mem_cons, List.not_mem_nil, or_false] at hq ⊢; rcases hq with rfl | rfl | rfl <;> simp) ?_
          refine am_lsv (ls' := [(0, .ref 3), (1, .int (rf_set (fun o => decide (rf_ord w o 1 &&& (rf_use w (rf_nat (rf_ord w o 0)) ^^^ (-1)) = 0)) (i4 + 1))), (2, .int (nI (i4 + 1)))]) (by rw [show ((rf_set (fun o => decide (rf_ord w o 1 &&& (rf_use w (rf_nat (rf_ord w o 0)) ^^^ (-1)) = 0)) i4) ||| ((nI 1) <<< ((nI i4) &&& 31))) = (rf_set (fun o => decide (rf_ord w o 1 &&& (rf_use w (rf_nat (rf_ord w o 0)) ^^^ (-1)) = 0)) (i4 + 1)) from rf_set_t (decide_eq_true q52)]) ?_
          exact ih4 (i4 + 1) (by omega) 
  refine am_sub (ls' := [(0, .ref 3), (1, .int (nI 0)), (2, .int (nI 0))]) (by intro q hq; simp only [List.mem_cons, List.not_mem_nil, or_false] at hq ⊢; rcases hq with rfl | rfl | rfl <;> simp) ?_
  exact L4 (rf_O w) 0 (by omega) 

set_option maxHeartbeats 400000 in
set_option maxRecDepth 100000 in
theorem c_X10_placeIn {ad : Nat → Nat} {r : am_R} (hR : am_rs r) {h : am_H} (s : Nat) (x : Int32) (w : rf_W) (hV : rf_I w) (hLo : cl_Lo (h) 4 w) (hSc : cl_Sc (h) 25 w) (hs : s < rf_S w)  : am_CM mX10_placeIn 1 0 0 [.ref 3, .int (nI s), .int x] (am_VV ad) r h (am_po (some (.int (rf_pl2 w s x))) r h) := by
  refine am_CM.of (by decide +kernel) (Nat.le_of_ble_eq_true rfl) (fun X C T => ?_)
  show am_G X (am_VV ad) (0, 0) 0 [(0, .ref 3), (1, .int (nI s)), (2, .int x)] [] r h
  have hM9 : rf_M w < 17 := hV.1.1.2
  have hS9 : rf_S w < 11 := hV.1.2.1.2
  have hO9 : rf_O w < 11 := hV.1.2.2.2
  have hIs := hV.2.1 s hs
  have hn7 : rf_ofn w s 2 < 7 := hIs.2.1.2
  have hn0 : 0 < rf_ofn w s 2 := Nat.lt_of_le_of_lt (Nat.zero_le _) hIs.2.2.1.2
  have hmd := rf_md_lt (nI (rf_ofn w s 1) + x) hn0
  refine am_aload_n (pc := 0) C dX10_placeIn_0 rfl ?_
  refine am_getR (pc := 1) (j := 4) C dX10_placeIn_1 f10_9 bn_3 sh_3 (rf_3_0 hR) ?_
  refine am_getR (pc := 4) (j := 12) C dX10_placeIn_4 f10_79 bn_4 sh_4 (rf_4_11 hR) ?_
  refine am_iload_n (pc := 7) C dX10_placeIn_7 rfl ?_
  refine am_callSNi (Y := mX11_pick) (pc := 8) (st := []) (As := [.ref 12, .int (nI s)]) (x := ((h 12) s)) (h2 := h) C dX10_placeIn_8 k10_54 v_X11_pick rfl rfl (by decide) (Nat.zero_le _) (Nat.zero_le _) (Nat.le_of_ble_eq_true rfl) (c_X11_pick 12 s 10 bn_12 sh_12 (show s < 10 from by omega) (by decide)) ?_
  refine am_top (show ((h 12) s) = (nI (rf_ofn w s 2)) from ((hLo.2.2.1 s (by omega)).2.2.1.trans (hV.2.1 s (by omega)).2.1.1)) ?_
  refine am_istore_n (pc := 11) (ls' := [(0, .ref 3), (1, .int (nI s)), (2, .int x), (3, .int (nI (rf_ofn w s 2)))]) C dX10_placeIn_11 (by decide) rfl ?_
  refine am_iload_n (pc := 12) C dX10_placeIn_12 rfl ?_
  refine am_iconstN (pc := 13) (k := 1) C dX10_placeIn_13 ?_
  refine am_icmp_geN (pc := 14) (tgt := 19) C dX10_placeIn_14 (by decide) (by omega) (by omega) (fun q14 => ?_) (fun q14 => ?_)
  · skip
    refine am_aload_n (pc := 19) C dX10_placeIn_19 rfl ?_
    refine am_getR (pc := 20) (j := 25) C dX10_placeIn_20 f10_22 bn_3 sh_3 (rf_3_2 hR) ?_
    refine am_getR (pc := 23) (j := 26) C dX10_placeIn_23 f10_40 bn_25 sh_25 (rf_25_5 hR) ?_
    refine am_iload_n (pc := 26) C dX10_placeIn_26 rfl ?_
    refine am_callSNi (Y := mX11_pick) (pc := 27) (st := []) (As := [.ref 26, .int (nI s)]) (x := ((h 26) s)) (h2 := h) C dX10_placeIn_27 k10_54 v_X11_pick rfl rfl (by decide) (Nat.zero_le _) (Nat.zero_le _) (Nat.le_of_ble_eq_true rfl) (c_X11_pick 26 s 10 bn_26 sh_26 (show s < 10 from by omega) (by decide)) ?_
    refine am_top (show ((h 26) s) = (nI (rf_ofn w s 1)) from ((hSc.2.1 s (by omega)).1.trans (hV.2.1 s (by omega)).2.2.1.1)) ?_
    refine am_iload_n (pc := 30) C dX10_placeIn_30 rfl ?_
    refine am_iadd (pc := 31) C dX10_placeIn_31 ?_
    refine am_iload_n (pc := 32) C dX10_placeIn_32 rfl ?_
    refine am_callSi (Y := mJ9_floorMod_7cf53) (pc := 33) (st := []) (As := [.int ((nI (rf_ofn w s 1)) + x), .int (nI (rf_ofn w s 2))]) (x := (rf_fmod ((nI (rf_ofn w s 1)) + x) (nI (rf_ofn w s 2)))) (h2 := h) C dX10_placeIn_33 k10_82 v_J9_floorMod_7cf53 rfl rfl (by decide) (Nat.zero_le _) (Nat.zero_le _) (Nat.le_of_ble_eq_true rfl) (c_J9_floorMod_7cf53 hR ((nI (rf_ofn w s 1)) + x) (nI (rf_ofn w s 2)) (show ¬ (nI (rf_ofn w s 2)) = 0 from (nI_ne0 hn0 (by omega)))) ?_
    refine am_top (show (rf_fmod ((nI (rf_ofn w s 1)) + x) (nI (rf_ofn w s 2))) = (nI (rf_md (nI (rf_ofn w s 1) + x) (rf_ofn w s 2))) from (rf_fmod_md _ hn0 (by omega))) ?_
    refine am_istore (pc := 36) (ls' := [(0, .ref 3), (1, .int (nI s)), (2, .int x), (3, .int (nI (rf_ofn w s 2))), (4, .int (nI (rf_md (nI (rf_ofn w s 1) + x) (rf_ofn w s 2))))]) C dX10_placeIn_36 (by decide) rfl ?_
    refine am_aload_n (pc := 38) C dX10_placeIn_38 rfl ?_
    refine am_getR (pc := 39) (j := 4) C dX10_placeIn_39 f10_9 bn_3 sh_3 (rf_3_0 hR) ?_
    refine am_getR (pc := 42) (j := 13) C dX10_placeIn_42 f10_51 bn_4 sh_4 (rf_4_12 hR) ?_
    refine am_iload_n (pc := 45) C dX10_placeIn_45 rfl ?_
    refine am_bipush (pc := 46) (v := nI 6) C dX10_placeIn_46 (by decide) ?_
    refine am_imulN (pc := 48) C dX10_placeIn_48 ?_
    refine am_iload (pc := 49) C dX10_placeIn_49 rfl ?_
    refine am_iaddN (pc := 51) C dX10_placeIn_51 ?_
    refine am_callSNi (Y := mX11_pick) (pc := 52) (st := []) (As := [.ref 13, .int (nI ((s * 6) + (rf_md (nI (rf_ofn w s 1) + x) (rf_ofn w s 2))))]) (x := ((h 13) ((s * 6) + (rf_md (nI (rf_ofn w s 1) + x) (rf_ofn w s 2))))) (h2 := h) C dX10_placeIn_52 k10_54 v_X11_pick rfl rfl (by decide) (Nat.zero_le _) (Nat.zero_le _) (Nat.le_of_ble_eq_true rfl) (c_X11_pick 13 ((s * 6) + (rf_md (nI (rf_ofn w s 1) + x) (rf_ofn w s 2))) 60 bn_13 sh_13 (show (s * 6) + (rf_md (nI (rf_ofn w s 1) + x) (rf_ofn w s 2)) < 60 from by omega) (by decide)) ?_
    refine am_top (show ((h 13) ((s * 6) + (rf_md (nI (rf_ofn w s 1) + x) (rf_ofn w s 2)))) = (rf_pl2 w s x) from (((hLo.2.2.1 s hs).2.2.2 _ hmd).trans (by rw [rf_pl2, hIs.2.2.1.1]; rfl))) ?_
    exact am_ireti T dX10_placeIn_55 rfl (Nat.le_refl _) (Nat.le_refl _) rfl rfl rfl
  · skip
    exact absurd q14 (by omega)

set_option maxHeartbeats 400000 in
set_option maxRecDepth 100000 in
theorem c_X10_together {ad : Nat → Nat} {r : am_R} (hR : am_rs r) {h : am_H} (a : Nat) (b : Nat) (w : rf_W) (hV : rf_I w) (hLo : cl_Lo (h) 4 w) (hSc : cl_Sc (h) 25 w) (ha : a < rf_S w) (hb : b < rf_S w)  : am_CM mX10_together 1 0 0 [.ref 3, .int (nI a), .int (nI b)] (am_VV ad) r h (am_po (some (.int (am_b (decide (rf_pl w a = rf_pl w b))))) r h) := by
  refine am_CM.of (by decide +kernel) (Nat.le_of_ble_eq_true rfl) (fun X C T => ?_)
  show am_G X (am_VV ad) (0, 0) 0 [(0, .ref 3), (1, .int (nI a)), (2, .int (nI b))] [] r h
  have hM9 : rf_M w < 17 := hV.1.1.2
  have hS9 : rf_S w < 11 := hV.1.2.1.2
  have hO9 : rf_O w < 11 := hV.1.2.2.2
  refine am_aload_n (pc := 0) C dX10_together_0 rfl ?_
  refine am_getR (pc := 1) (j := 25) C dX10_together_1 f10_22 bn_3 sh_3 (rf_3_2 hR) ?_
  refine am_getR (pc := 4) (j := 27) C dX10_together_4 f10_48 bn_25 sh_25 (rf_25_6 hR) ?_
  refine am_iload_n (pc := 7) C dX10_together_7 rfl ?_
  refine am_callSNi (Y := mX11_pick) (pc := 8) (st := []) (As := [.ref 27, .int (nI a)]) (x := ((h 27) a)) (h2 := h) C dX10_together_8 k10_54 v_X11_pick rfl rfl (by decide) (Nat.zero_le _) (Nat.zero_le _) (Nat.le_of_ble_eq_true rfl) (c_X11_pick 27 a 10 bn_27 sh_27 (show a < 10 from by omega) (by decide)) ?_
  refine am_top (show ((h 27) a) = (rf_pl w a) from (hSc.2.1 a (by omega)).2.1) ?_
  refine am_aload_n (pc := 11) C dX10_together_11 rfl ?_
  refine am_getR (pc := 12) (j := 25) C dX10_together_12 f10_22 bn_3 sh_3 (rf_3_2 hR) ?_
  refine am_getR (pc := 15) (j := 27) C dX10_together_15 f10_48 bn_25 sh_25 (rf_25_6 hR) ?_
  refine am_iload_n (pc := 18) C dX10_together_18 rfl ?_
  refine am_callSNi (Y := mX11_pick) (pc := 19) (st := [.int (rf_pl w a)]) (As := [.ref 27, .int (nI b)]) (x := ((h 27) b)) (h2 := h) C dX10_together_19 k10_54 v_X11_pick rfl rfl (by decide) (Nat.zero_le _) (Nat.zero_le _) (Nat.le_of_ble_eq_true rfl) (c_X11_pick 27 b 10 bn_27 sh_27 (show b < 10 from by omega) (by decide)) ?_
  refine am_top (show ((h 27) b) = (rf_pl w b) from (hSc.2.1 b (by omega)).2.1) ?_
  refine am_icmp_ne (pc := 22) (tgt := 29) C dX10_together_22 (by decide) (fun q22 => ?_) (fun q22 => ?_)
  · skip
    refine am_iconstN (pc := 29) (k := 0) C dX10_together_29 ?_
    exact am_iretb T dX10_together_30 rfl (Nat.le_refl _) (Nat.le_refl _) (by rw [decide_eq_false q22]; rfl) rfl rfl
  · skip
    refine am_iconstN (pc := 25) (k := 1) C dX10_together_25 ?_
    refine am_goto (pc := 26) (tgt := 30) C dX10_together_26 (by decide) ?_
    exact am_iretb T dX10_together_30 rfl (Nat.le_refl _) (Nat.le_refl _) (by rw [decide_eq_true q22]; rfl) rfl rfl

set_option maxHeartbeats 400000 in
set_option maxRecDepth 100000 in
theorem c_X10_ofOneSide {ad : Nat → Nat} {r : am_R} (hR : am_rs r) {h : am_H} (a : Nat) (b : Nat) (w : rf_W) (hV : rf_I w) (hLo : cl_Lo (h) 4 w) (hSc : cl_Sc (h) 25 w) (ha : a < rf_S w) (hb : b < rf_S w)  : am_CM mX10_ofOneSide 1 0 0 [.ref 3, .int (nI a), .int (nI b)] (am_VV ad) r h (am_po (some (.int (am_b (decide (rf_of w a 0 = rf_of w b 0))))) r h) := by
  refine am_CM.of (by decide +kernel) (Nat.le_of_ble_eq_true rfl) (fun X C T => ?_)
  show am_G X (am_VV ad) (0, 0) 0 [(0, .ref 3), (1, .int (nI a)), (2, .int (nI b))] [] r h
  have hM9 : rf_M w < 17 := hV.1.1.2
  have hS9 : rf_S w < 11 := hV.1.2.1.2
  have hO9 : rf_O w < 11 := hV.1.2.2.2
  refine am_aload_n (pc := 0) C dX10_ofOneSide_0 rfl ?_
  refine am_getR (pc := 1) (j := 4) C dX10_ofOneSide_1 f10_9 bn_3 sh_3 (rf_3_0 hR) ?_
  refine am_getR (pc := 4) (j := 10) C dX10_ofOneSide_4 f10_88 bn_4 sh_4 (rf_4_9 hR) ?_
  refine am_iload_n (pc := 7) C dX10_ofOneSide_7 rfl ?_
  refine am_callSNi (Y := mX11_pick) (pc := 8) (st := []) (As := [.ref 10, .int (nI a)]) (x := ((h 10) a)) (h2 := h) C dX10_ofOneSide_8 k10_54 v_X11_pick rfl rfl (by decide) (Nat.zero_le _) (Nat.zero_le _) (Nat.le_of_ble_eq_true rfl) (c_X11_pick 10 a 10 bn_10 sh_10 (show a < 10 from by omega) (by decide)) ?_
  refine am_top (show ((h 10) a) = (rf_of w a 0) from (hLo.2.2.1 a (by omega)).1) ?_
  refine am_aload_n (pc := 11) C dX10_ofOneSide_11 rfl ?_
  refine am_getR (pc := 12) (j := 4) C dX10_ofOneSide_12 f10_9 bn_3 sh_3 (rf_3_0 hR) ?_
  refine am_getR (pc := 15) (j := 10) C dX10_ofOneSide_15 f10_88 bn_4 sh_4 (rf_4_9 hR) ?_
  refine am_iload_n (pc := 18) C dX10_ofOneSide_18 rfl ?_
  refine am_callSNi (Y := mX11_pick) (pc := 19) (st := [.int (rf_of w a 0)]) (As := [.ref 10, .int (nI b)]) (x := ((h 10) b)) (h2 := h) C dX10_ofOneSide_19 k10_54 v_X11_pick rfl rfl (by decide) (Nat.zero_le _) (Nat.zero_le _) (Nat.le_of_ble_eq_true rfl) (c_X11_pick 10 b 10 bn_10 sh_10 (show b < 10 from by omega) (by decide)) ?_
  refine am_top (show ((h 10) b) = (rf_of w b 0) from (hLo.2.2.1 b (by omega)).1) ?_
  refine am_icmp_ne (pc := 22) (tgt := 29) C dX10_ofOneSide_22 (by decide) (fun q22 => ?_) (fun q22 => ?_)
  · skip
    refine am_iconstN (pc := 29) (k := 0) C dX10_ofOneSide_29 ?_
    exact am_iretb T dX10_ofOneSide_30 rfl (Nat.le_refl _) (Nat.le_refl _) (by rw [decide_eq_false q22]; rfl) rfl rfl
  · skip
    refine am_iconstN (pc := 25) (k := 1) C dX10_ofOneSide_25 ?_
    refine am_goto (pc := 26) (tgt := 30) C dX10_ofOneSide_26 (by decide) ?_
    exact am_iretb T dX10_ofOneSide_30 rfl (Nat.le_refl _) (Nat.le_refl _) (by rw [decide_eq_true q22]; rfl) rfl rfl

set_option maxHeartbeats 400000 in
set_option maxRecDepth 100000 in
theorem c_X10_isNewTo {ad : Nat → Nat} {r : am_R} (hR : am_rs r) {h : am_H} (s : Nat) (m : Nat) (w : rf_W) (hV : rf_I w) (hLo : cl_Lo (h) 4 w) (hSc : cl_Sc (h) 25 w) (hs : s < rf_S w) (hm : m < 32)  : am_CM mX10_isNewTo 1 0 0 [.ref 3, .int (nI s), .int (nI m)] (am_VV ad) r h (am_po (some (.int (am_b ((!am_bt (rf_known w s) m) && decide (rf_kn w s < 12))))) r h) := by
  refine am_CM.of (by decide +kernel) (Nat.le_of_ble_eq_true rfl) (fun X C T => ?_)
  show am_G X (am_VV ad) (0, 0) 0 [(0, .ref 3), (1, .int (nI s)), (2, .int (nI m))] [] r h
  have hM9 : rf_M w < 17 := hV.1.1.2
  have hS9 : rf_S w < 11 := hV.1.2.1.2
  have hO9 : rf_O w < 11 := hV.1.2.2.2
  have hk13 : rf_kn w s < 13 := (hV.2.1 s hs).2.2.2.2.1.2
  refine am_aload_n (pc := 0) C dX10_isNewTo_0 rfl ?_
  refine am_getR (pc := 1) (j := 25) C dX10_isNewTo_1 f10_22 bn_3 sh_3 (rf_3_2 hR) ?_
  refine am_getR (pc := 4) (j := 29) C dX10_isNewTo_4 f10_61 bn_25 sh_25 (rf_25_8 hR) ?_
  refine am_iload_n (pc := 7) C dX10_isNewTo_7 rfl ?_
  refine am_callSNi (Y := mX11_pick) (pc := 8) (st := []) (As := [.ref 29, .int (nI s)]) (x := ((h 29) s)) (h2 := h) C dX10_isNewTo_8 k10_54 v_X11_pick rfl rfl (by decide) (Nat.zero_le _) (Nat.zero_le _) (Nat.le_of_ble_eq_true rfl) (c_X11_pick 29 s 10 bn_29 sh_29 (show s < 10 from by omega) (by decide)) ?_
  refine am_top (show ((h 29) s) = (rf_known w s) from (hSc.2.1 s (by omega)).2.2.2.1) ?_
  refine am_iload_n (pc := 11) C dX10_isNewTo_11 rfl ?_
  refine am_callSNi (Y := mX11_has) (pc := 12) (st := []) (As := [.int (rf_known w s), .int (nI m)]) (x := (am_b (am_bt (rf_known w s) m))) (h2 := h) C dX10_isNewTo_12 k10_67 v_X11_has rfl rfl (by decide) (Nat.zero_le _) (Nat.zero_le _) (Nat.le_of_ble_eq_true rfl) (c_X11_has (rf_known w s) m hm) ?_
  refine am_if_neB (pc := 15) (tgt := 38) C dX10_isNewTo_15 (by decide) (fun q15 => ?_) (fun q15 => ?_)
  · skip
    refine am_iconstN (pc := 38) (k := 0) C dX10_isNewTo_38 ?_
    exact am_iretb T dX10_isNewTo_39 rfl (Nat.le_refl _) (Nat.le_refl _) (by rw [q15]; rfl) rfl rfl
  · skip
    refine am_aload_n (pc := 18) C dX10_isNewTo_18 rfl ?_
    refine am_getR (pc := 19) (j := 25) C dX10_isNewTo_19 f10_22 bn_3 sh_3 (rf_3_2 hR) ?_
    refine am_getR (pc := 22) (j := 28) C dX10_isNewTo_22 f10_58 bn_25 sh_25 (rf_25_7 hR) ?_
    refine am_iload_n (pc := 25) C dX10_isNewTo_25 rfl ?_
    refine am_callSNi (Y := mX11_pick) (pc := 26) (st := []) (As := [.ref 28, .int (nI s)]) (x := ((h 28) s)) (h2 := h) C dX10_isNewTo_26 k10_54 v_X11_pick rfl rfl (by decide) (Nat.zero_le _) (Nat.zero_le _) (Nat.le_of_ble_eq_true rfl) (c_X11_pick 28 s 10 bn_28 sh_28 (show s < 10 from by omega) (by decide)) ?_
    refine am_top (show ((h 28) s) = (nI (rf_kn w s)) from ((hSc.2.1 s (by omega)).2.2.1.trans (hV.2.1 s (by omega)).2.2.2.2.1.1)) ?_
    refine am_bipush (pc := 29) (v := nI 12) C dX10_isNewTo_29 (by decide) ?_
    refine am_icmp_geN (pc := 31) (tgt := 38) C dX10_isNewTo_31 (by decide) (by omega) (by omega) (fun q31 => ?_) (fun q31 => ?_)
    · skip
      refine am_iconstN (pc := 38) (k := 0) C dX10_isNewTo_38 ?_
      exact am_iretb T dX10_isNewTo_39 rfl (Nat.le_refl _) (Nat.le_refl _) (by rw [q15, decide_eq_false (by omega)]; rfl) rfl rfl
    · skip
      refine am_iconstN (pc := 34) (k := 1) C dX10_isNewTo_34 ?_
      refine am_goto (pc := 35) (tgt := 39) C dX10_isNewTo_35 (by decide) ?_
      exact am_iretb T dX10_isNewTo_39 rfl (Nat.le_refl _) (Nat.le_refl _) (by rw [q15, decide_eq_true (by omega)]; rfl) rfl rfl

set_option maxHeartbeats 400000 in
set_option maxRecDepth 100000 in
theorem c_X10_canLearn {ad : Nat → Nat} {r : am_R} (hR : am_rs r) {h : am_H} (s : Nat) (m : Nat) (w : rf_W) (hV : rf_I w) (hLo : cl_Lo (h) 4 w) (hSc : cl_Sc (h) 25 w) (hs : s < rf_S w) (hm : m < rf_M w)  : am_CM mX10_canLearn 2 0 0 [.ref 3, .int (nI s), .int (nI m)] (am_VV ad) r h (am_po (some (.int (am_b (rf_can w s m)))) r h) := by
  refine am_CM.of (by decide +kernel) (Nat.le_of_ble_eq_true rfl) (fun X C T => ?_)
  show am_G X (am_VV ad) (0, 0) 0 [(0, .ref 3), (1, .int (nI s)), (2, .int (nI m))] [] r h
  have hM9 : rf_M w < 17 := hV.1.1.2
  have hS9 : rf_S w < 11 := hV.1.2.1.2
  have hO9 : rf_O w < 11 := hV.1.2.2.2
  refine am_aload_n (pc := 0) C dX10_canLearn_0 rfl ?_
  refine am_iload_n (pc := 1) C dX10_canLearn_1 rfl ?_
  refine am_iload_n (pc := 2) C dX10_canLearn_2 rfl ?_
  refine am_callVi (Y := mX10_isNewTo) (pc := 3) (st := []) (As := [.int (nI s), .int (nI m)]) (x := (am_b ((!am_bt (rf_known w s) m) && decide (rf_kn w s < 12)))) (h2 := h) C dX10_canLearn_3 k10_91 v_X10_isNewTo rfl rfl bn_3 sh_3 ⟨by decide, rfl⟩ (by decide) (Nat.zero_le _) (Nat.zero_le _) (Nat.le_of_ble_eq_true rfl) (c_X10_isNewTo hR s m w hV hLo hSc hs (show m < 32 from by omega)) ?_
  refine am_if_eqB (pc := 6) (tgt := 41) C dX10_canLearn_6 (by decide) (fun q6 => ?_) (fun q6 => ?_)
  · skip
    refine am_iconstN (pc := 41) (k := 0) C dX10_canLearn_41 ?_
    exact am_iretb T dX10_canLearn_42 rfl (Nat.le_refl _) (Nat.le_refl _) (by rw [rf_can, ← Bool.and_assoc, q6]; rfl) rfl rfl
  · skip
    refine am_aload_n (pc := 9) C dX10_canLearn_9 rfl ?_
    refine am_getR (pc := 10) (j := 4) C dX10_canLearn_10 f10_9 bn_3 sh_3 (rf_3_0 hR) ?_
    refine am_getR (pc := 13) (j := 6) C dX10_canLearn_13 f10_94 bn_4 sh_4 (rf_4_5 hR) ?_
    refine am_iload_n (pc := 16) C dX10_canLearn_16 rfl ?_
    refine am_callSNi (Y := mX11_pick) (pc := 17) (st := []) (As := [.ref 6, .int (nI m)]) (x := ((h 6) m)) (h2 := h) C dX10_canLearn_17 k10_54 v_X11_pick rfl rfl (by decide) (Nat.zero_le _) (Nat.zero_le _) (Nat.le_of_ble_eq_true rfl) (c_X11_pick 6 m 16 bn_6 sh_6 (show m < 16 from by omega) (by decide)) ?_
    refine am_top (show ((h 6) m) = (rf_mem w m 1) from (hLo.2.1 m (by omega)).2.1) ?_
    refine am_aload_n (pc := 20) C dX10_canLearn_20 rfl ?_
    refine am_getR (pc := 21) (j := 25) C dX10_canLearn_21 f10_22 bn_3 sh_3 (rf_3_2 hR) ?_
    refine am_getR (pc := 24) (j := 30) C dX10_canLearn_24 f10_64 bn_25 sh_25 (rf_25_9 hR) ?_
    refine am_iload_n (pc := 27) C dX10_canLearn_27 rfl ?_
    refine am_callSNi (Y := mX11_pick) (pc := 28) (st := [.int (rf_mem w m 1)]) (As := [.ref 30, .int (nI s)]) (x := ((h 30) s)) (h2 := h) C dX10_canLearn_28 k10_54 v_X11_pick rfl rfl (by decide) (Nat.zero_le _) (Nat.zero_le _) (Nat.le_of_ble_eq_true rfl) (c_X11_pick 30 s 10 bn_30 sh_30 (show s < 10 from by omega) (by decide)) ?_
    refine am_top (show ((h 30) s) = (rf_use w s) from (hSc.2.1 s (by omega)).2.2.2.2.1) ?_
    refine am_iconst (pc := 31) (v := -1) C dX10_canLearn_31 rfl ?_
    refine am_ixor (pc := 32) C dX10_canLearn_32 ?_
    refine am_iand (pc := 33) C dX10_canLearn_33 ?_
    refine am_if_ne (pc := 34) (tgt := 41) C dX10_canLearn_34 (by decide) (fun q34 => ?_) (fun q34 => ?_)
    · skip
      refine am_iconstN (pc := 41) (k := 0) C dX10_canLearn_41 ?_
      exact am_iretb T dX10_canLearn_42 rfl (Nat.le_refl _) (Nat.le_refl _) (by rw [rf_can, ← Bool.and_assoc, q6, decide_eq_false q34]; rfl) rfl rfl
    · skip
      refine am_iconstN (pc := 37) (k := 1) C dX10_canLearn_37 ?_
      refine am_goto (pc := 38) (tgt := 42) C dX10_canLearn_38 (by decide) ?_
      exact am_iretb T dX10_canLearn_42 rfl (Nat.le_refl _) (Nat.le_refl _) (by rw [rf_can, ← Bool.and_assoc, q6, decide_eq_true q34]; rfl) rfl rfl

set_option maxHeartbeats 400000 in
set_option maxRecDepth 100000 in
theorem c_X10_fallsOf {ad : Nat → Nat} {r : am_R} (hR : am_rs r) {h : am_H} (s : Nat) (m : Nat) (w : rf_W) (hV : rf_I w) (hLo : cl_Lo (h) 4 w) (hSc : cl_Sc (h) 25 w) (hs : s < rf_S w) (hm : m < rf_M w)  : am_CM mX10_fallsOf 1 0 0 [.ref 3, .int (nI s), .int (nI m)] (am_VV ad) r h (am_po (some (.int (rf_falls w (rf_known w s) m))) r h) := by
  refine am_CM.of (by decide +kernel) (Nat.le_of_ble_eq_true rfl) (fun X C T => ?_)
  show am_G X (am_VV ad) (0, 0) 0 [(0, .ref 3), (1, .int (nI s)), (2, .int (nI m))] [] r h
  have hM9 : rf_M w < 17 := hV.1.1.2
  have hS9 : rf_S w < 11 := hV.1.2.1.2
  have hO9 : rf_O w < 11 := hV.1.2.2.2
  refine am_aload_n (pc := 0) C dX10_fallsOf_0 rfl ?_
  refine am_getR (pc := 1) (j := 25) C dX10_fallsOf_1 f10_22 bn_3 sh_3 (rf_3_2 hR) ?_
  refine am_getR (pc := 4) (j := 30) C dX10_fallsOf_4 f10_64 bn_25 sh_25 (rf_25_9 hR) ?_
  refine am_iload_n (pc := 7) C dX10_fallsOf_7 rfl ?_
  refine am_callSNi (Y := mX11_pick) (pc := 8) (st := []) (As := [.ref 30, .int (nI s)]) (x := ((h 30) s)) (h2 := h) C dX10_fallsOf_8 k10_54 v_X11_pick rfl rfl (by decide) (Nat.zero_le _) (Nat.zero_le _) (Nat.le_of_ble_eq_true rfl) (c_X11_pick 30 s 10 bn_30 sh_30 (show s < 10 from by omega) (by decide)) ?_
  refine am_top (show ((h 30) s) = (rf_use w s) from (hSc.2.1 s (by omega)).2.2.2.2.1) ?_
  refine am_aload_n (pc := 11) C dX10_fallsOf_11 rfl ?_
  refine am_getR (pc := 12) (j := 4) C dX10_fallsOf_12 f10_9 bn_3 sh_3 (rf_3_0 hR) ?_
  refine am_getR (pc := 15) (j := 8) C dX10_fallsOf_15 f10_104 bn_4 sh_4 (rf_4_7 hR) ?_
  refine am_iload_n (pc := 18) C dX10_fallsOf_18 rfl ?_
  refine am_callSNi (Y := mX11_pick) (pc := 19) (st := [.int (rf_use w s)]) (As := [.ref 8, .int (nI m)]) (x := ((h 8) m)) (h2 := h) C dX10_fallsOf_19 k10_54 v_X11_pick rfl rfl (by decide) (Nat.zero_le _) (Nat.zero_le _) (Nat.le_of_ble_eq_true rfl) (c_X11_pick 8 m 16 bn_8 sh_8 (show m < 16 from by omega) (by decide)) ?_
  refine am_top (show ((h 8) m) = (rf_rests w m) from (hLo.2.1 m (by omega)).2.2.2.1) ?_
  refine am_iconstN (pc := 22) (k := 1) C dX10_fallsOf_22 ?_
  refine am_iload_n (pc := 23) C dX10_fallsOf_23 rfl ?_
  refine am_ishl (pc := 24) C dX10_fallsOf_24 ?_
  refine am_ior (pc := 25) C dX10_fallsOf_25 ?_
  refine am_iand (pc := 26) C dX10_fallsOf_26 ?_
  refine am_callSi (Y := mJ6_bitCount_0f7a4) (pc := 27) (st := []) (As := [.int ((rf_use w s) &&& ((rf_rests w m) ||| ((nI 1) <<< ((nI m) &&& 31))))]) (x := (rf_pc ((rf_use w s) &&& ((rf_rests w m) ||| ((nI 1) <<< ((nI m) &&& 31)))))) (h2 := h) C dX10_fallsOf_27 k10_107 v_J6_bitCount_0f7a4 rfl rfl (by decide) (Nat.zero_le _) (Nat.zero_le _) (Nat.le_of_ble_eq_true rfl) (c_J6_bitCount_0f7a4 hR ((rf_use w s) &&& ((rf_rests w m) ||| ((nI 1) <<< ((nI m) &&& 31))))) ?_
  exact am_ireti T dX10_fallsOf_30 rfl (Nat.le_refl _) (Nat.le_refl _) (by rw [rf_falls_eq hV hm]; exact rf_pc_bc (am_lo_and (am_lo_mono (rf_usable_lo hV) (by omega)))) rfl rfl

