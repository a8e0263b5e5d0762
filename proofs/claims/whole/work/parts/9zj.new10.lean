/-! THE CONSTRUCTORS of Past and ForgetWar -/
section NEWK2
theorem nk_X5_ne {r : am_R} {q n a : Nat} (ha : a ≠ q) : nk_X5_init r q n a = r a := by
  unfold nk_X5_init
  repeat rw [am_up_ne _ _ _ _ _ ha]
def nk_X4l (r : am_R) : Nat → am_R
  | 0 => am_up r 132 0 (.ref 133)
  | k + 1 => am_up (nk_X5_init (nk_X4l r k) (134 + 15 * k) (134 + 15 * k + 1)) 133 k (.ref (134 + 15 * k))
def nh_X4l (h : am_H) : Nat → am_H
  | 0 => h
  | k + 1 => nh_X5_init (nh_X4l h k) (134 + 15 * k) (134 + 15 * k + 1)
theorem nk_X4_0 {r : am_R} : ∀ k, nk_X4l r k 132 0 = .ref 133
  | 0 => am_up_same _ _ _ _
  | k + 1 => by
    show am_up (nk_X5_init (nk_X4l r k) (134 + 15 * k) (134 + 15 * k + 1)) 133 k (.ref (134 + 15 * k)) 132 0 = _
    rw [am_up_ne _ _ _ _ _ (by omega), nk_X5_ne (by omega)]
    exact nk_X4_0 k
theorem nx_s5 : ∀ k, k < 12 → am_SH (134 + 15 * k) = (0, 5) := by decide +kernel
theorem nx_s5s : ∀ k, k < 12 → nw_shs (134 + 15 * k + 1) nl_X5_init := by unfold nw_shs; decide +kernel
set_option maxHeartbeats 4000000 in
set_option maxRecDepth 100000 in
theorem nc_X4_init {ad : Nat → Nat} {r : am_R} {h : am_H} (fr : nw_fr r h 133) : am_NM mX4_init 2 181 7320 [.ref 132] ad 133 314 am_SH r h (nw_Q (nk_X4l r 12) (nh_X4l h 12) 314) := by
  refine am_NM.of (by decide +kernel) (Nat.le_of_ble_eq_true rfl) (fun X C hO T => ?_)
  show am_G X (ad, 133, am_SH) (0, 0) 0 [(0, .ref 132)] [] r h
  refine am_aload_n (pc := 0) C dX4_init_0 rfl ?_
  refine am_objInit (pc := 1) C dX4_init_1 (am_mem 506 (by decide +kernel) rfl) (by decide) (Nat.le_of_ble_eq_true rfl) ?_
  refine am_aload_n (pc := 4) C dX4_init_4 rfl ?_
  refine am_bipush (pc := 5) (v := nI 12) C dX4_init_5 (by decide) ?_
  refine nx_newq (pc := 7) (N := 12) (m := 134) (cz := (1, 12)) C hO dX4_init_7 (am_mem 507 (by decide +kernel) rfl) fr sh_133 (by decide +kernel) (by decide +kernel) (by decide) (nx_sb (by omega)) ⟨(nw_vbr (by omega)), trivial⟩ ⟨(nw_vbr (by omega)), trivial⟩ rfl rfl (Nat.le_of_ble_eq_true rfl) (Nat.le_of_ble_eq_true rfl) (fun ad1 o1 => ?_)
  have f1 : nw_fr r h 134 := fr.mono (by omega)
  refine am_putRF (pc := 10) (ft := tyX4 0) C dX4_init_10 f4_11 (show 132 < 134 by omega) sh_132 rfl rfl rfl (tyX4_ok 0 (by decide)) (fun _ => ⟨rfl, rfl⟩) ?_
  have f2 : nw_fr (nk_X4l r 0) (nh_X4l h 0) (134 + 15 * 0) := f1.pr (by omega) (by omega)
  refine am_iconstN (pc := 13) (k := 0) C dX4_init_13 ?_
  refine am_istore_n (pc := 14) (ls' := [(0, .ref 132), (1, .int (nI 0))]) C dX4_init_14 (by decide) rfl ?_
  have key : ∀ j k, k + j = 12 → ∀ ad2, nw_ok 133 (134 + 15 * k) ad ad2 → nw_fr (nk_X4l r k) (nh_X4l h k) (134 + 15 * k) → am_G X (ad2, 134 + 15 * k, am_SH) (1 + 15 * k, 12 + 609 * k) 15 [(0, .ref 132), (1, .int (nI k))] [] (nk_X4l r k) (nh_X4l h k) := by
    intro j
    induction j with
    | zero =>
      intro k hk ad2 ok2 f
      have hk12 : k = 12 := by omega
      subst hk12
      refine am_iload_n (pc := 15) C dX4_init_15 rfl ?_
      refine am_bipush (pc := 16) (v := nI 12) C dX4_init_16 (by decide) ?_
      refine am_icmp_geN (pc := 18) (tgt := 40) C dX4_init_18 (by decide) (by omega) (by omega) (fun _ => ?_) (fun q => absurd q (by omega))
      exact am_nret T ok2 dX4_init_40 rfl (Nat.le_of_ble_eq_true rfl) (Nat.le_of_ble_eq_true rfl) ⟨rfl, rfl, f⟩
    | succ j ih =>
      intro k hk ad2 ok2 f
      have hk12 : k < 12 := by omega
      refine am_iload_n (pc := 15) C dX4_init_15 rfl ?_
      refine am_bipush (pc := 16) (v := nI 12) C dX4_init_16 (by decide) ?_
      refine am_icmp_geN (pc := 18) (tgt := 40) C dX4_init_18 (by decide) (by omega) (by omega) (fun q => absurd q (by omega)) (fun _ => ?_)
      refine am_aload_n (pc := 21) C dX4_init_21 rfl ?_
      refine am_getR (pc := 22) (j := 133) C dX4_init_22 f4_11 (show 132 < 134 + 15 * k by omega) sh_132 (nk_X4_0 k) ?_
      refine am_iload_n (pc := 25) C dX4_init_25 rfl ?_
      refine nx_new (pc := 26) (ci := 5) (m := 134 + 15 * k + 1) (cz := (1 + 15 * k + 1, 12 + 609 * k + 19)) C dX4_init_26 f (nx_s5 k hk12) (by decide) nw_de5 (am_mem 507 (by decide +kernel) rfl) (am_mem 358 (by decide +kernel) rfl) (am_mem 145 (by decide +kernel) rfl) (nx_sb (by omega)) ⟨(nw_vbr (by omega)), nw_vbi, trivial⟩ ⟨nw_vbi, (nw_vbr (by omega)), trivial⟩ rfl rfl (show 1 + 15 * k + 1 ≤ 181 by omega) (show 12 + 609 * k + 19 ≤ 7320 by omega) (fun ad3 o3 => ?_)
      have f3 : nw_fr (nk_X4l r k) (nh_X4l h k) (134 + 15 * k + 1) := f.mono (by omega)
      refine am_dup (pc := 29) C dX4_init_29 rfl ?_
      refine nx_callN (Y := mX5_init) (pc := 30) (st := [.ref (134 + 15 * k), .int (nI k), .ref 133]) (As := []) (n' := 134 + 15 * k + 1 + 14) (cz := (1 + 15 * k + 1 + 14, 12 + 609 * k + 19 + 590)) C hO dX4_init_30 k4_17 v_X5_init rfl rfl (by decide) rfl (show 1 + 15 * k + 1 + 14 ≤ 181 by omega) (show 12 + 609 * k + 19 + 590 ≤ 7320 by omega) (Nat.le_of_ble_eq_true rfl) (nx_sbl (by omega)) ⟨(nw_vbr (by omega)), nw_vbi, trivial⟩ ⟨(nw_vbr (by omega)), nw_vbi, (nw_vbr (by omega)), trivial⟩ (nc_X5_init (q := 134 + 15 * k) (n := 134 + 15 * k + 1) f3 (by omega) (by omega) (nx_s5 k hk12) (nx_s5s k hk12)) (fun ad4 o4 f4 => ?_)
      refine am_aastore (pc := 33) (n := 12) C dX4_init_33 (show 133 < 134 + 15 * k + 1 + 14 by omega) sh_133 (vp_in_nI (by omega) (by decide)) (show 134 + 15 * k < 134 + 15 * k + 1 + 14 by omega) (nx_s5 k hk12) ?_
      rw [nI_clamp (by omega)]
      refine am_iincN (pc := 34) (ls' := [(0, .ref 132), (1, .int (nI (k + 1)))]) C dX4_init_34 rfl (am_up1 _) (by decide) rfl ?_
      refine am_goto (pc := 37) (tgt := 15) C dX4_init_37 (by decide) ?_
      have K := ih (k + 1) (by omega) ad4
      rw [show 134 + 15 * (k + 1) = 134 + 15 * k + 1 + 14 by omega, show 1 + 15 * (k + 1) = 1 + 15 * k + 1 + 14 by omega, show 12 + 609 * (k + 1) = 12 + 609 * k + 19 + 590 by omega] at K
      exact K (nw_ok_tr ⟨by omega, by omega⟩ (nw_ok_tr ⟨by omega, by omega⟩ ok2 o3) o4) (f4.pr (by omega) (by omega))
  exact key 12 0 rfl ad1 o1 f2

theorem ns_X0_init_319 : nw_shs 319 nl_X0_init := by unfold nw_shs; decide +kernel
theorem ns_X10_init_115 : nw_shs 115 nl_X10_init := by unfold nw_shs; decide +kernel
theorem ns_X10_init_25 : nw_shs 25 nl_X10_init := by unfold nw_shs; decide +kernel
theorem ns_X10_init_41 : nw_shs 41 nl_X10_init := by unfold nw_shs; decide +kernel
theorem ns_X10_init_78 : nw_shs 78 nl_X10_init := by unfold nw_shs; decide +kernel
theorem ns_X1_init_108 : nw_shs 108 nl_X1_init := by unfold nw_shs; decide +kernel
theorem ns_X1_init_18 : nw_shs 18 nl_X1_init := by unfold nw_shs; decide +kernel
theorem ns_X1_init_71 : nw_shs 71 nl_X1_init := by unfold nw_shs; decide +kernel
theorem ns_X3_init_5 : nw_shs 5 nl_X3_init := by unfold nw_shs; decide +kernel
theorem ns_X3_init_58 : nw_shs 58 nl_X3_init := by unfold nw_shs; decide +kernel
theorem ns_X3_init_95 : nw_shs 95 nl_X3_init := by unfold nw_shs; decide +kernel
theorem ns_X7_init_317 : nw_shs 317 nl_X7_init := by unfold nw_shs; decide +kernel
theorem ns_X8_init_2 : nw_shs 2 nl_X8_init := by unfold nw_shs; decide +kernel
def nk_X11_init (r : am_R) : am_R := am_up (nk_X0_init (am_up (nk_X7_init (am_up (nk_X6_init (am_up (nk_X4l (am_up (nk_X2_init (am_up (nk_X9_init (am_up (nk_X10_init (nk_X1_init (nk_X3_init (am_up (nk_X10_init (nk_X1_init (nk_X3_init (am_up (nk_X10_init (am_up (nk_X10_init (nk_X1_init (nk_X3_init (am_up (nk_X8_init r 1 2) 0 0 (.ref 1)) 4 5) 17 18) 3 4 17 25) 0 1 (.ref 3)) 40 4 17 41) 0 2 (.ref 40)) 57 58) 70 71) 56 57 70 78) 0 3 (.ref 56)) 94 95) 107 108) 93 94 107 115) 0 4 (.ref 93))) 0 5 (.ref 130)) 131 1 70 132) 0 6 (.ref 131)) 12) 0 7 (.ref 132))) 0 8 (.ref 314)) 316 3 317) 0 9 (.ref 316)) 318 3 319) 0 10 (.ref 318)
def nh_X11_init (h : am_H) : am_H := am_up (am_up (nh_X4l (nh_X10_init (nh_X1_init (nh_X10_init (nh_X1_init (nh_X10_init (nh_X10_init (nh_X1_init h 17 18) 3 4 17 25) 40 4 17 41) 70 71) 56 57 70 78) 107 108) 93 94 107 115) 12) 0 11 (nI 0)) 0 12 (-1)
set_option maxHeartbeats 4000000 in
set_option maxRecDepth 100000 in
theorem nc_X11_init {ad : Nat → Nat} {r : am_R} {h : am_H} (fr : nw_fr r h 1) : am_NM mX11_init 3 321 13871 [.ref 0] ad 1 322 am_SH r h (nw_Q (nk_X11_init r) (nh_X11_init h) 322) := by
  refine am_NM.of (by decide +kernel) (Nat.le_of_ble_eq_true rfl) (fun X C hO T => ?_)
  show am_G X (ad, 1, am_SH) (0, 0) 0 [(0, .ref 0)] [] r h
  refine am_aload_n (pc := 0) C dX11_init_0 rfl ?_
  refine am_objInit (pc := 1) C dX11_init_1 (am_mem 173 (by decide +kernel) rfl) (by decide) (Nat.le_of_ble_eq_true rfl) ?_
  refine am_aload_n (pc := 4) C dX11_init_4 rfl ?_
  refine nx_new (pc := 5) (ci := 8) (m := 2) (cz := (1, 6)) C dX11_init_5 fr sh_1 (by decide) nw_de8 (am_mem 176 (by decide +kernel) rfl) (am_mem 177 (by decide +kernel) rfl) (am_mem 141 (by decide +kernel) rfl) (nx_sb (by omega)) ⟨(nw_vbr (by omega)), trivial⟩ ⟨(nw_vbr (by omega)), trivial⟩ rfl rfl (Nat.le_of_ble_eq_true rfl) (Nat.le_of_ble_eq_true rfl) (fun ad1 o1 => ?_)
  have f1 : nw_fr r h (2) := fr.mono (by omega)
  refine am_dup (pc := 8) C dX11_init_8 rfl ?_
  refine nx_callN (Y := mX8_init) (pc := 9) (st := [.ref 1, .ref 0]) (As := []) (n' := 3) (cz := (2, 406)) C hO dX11_init_9 k11_9 v_X8_init rfl rfl (by decide) rfl (Nat.le_of_ble_eq_true rfl) (Nat.le_of_ble_eq_true rfl) (Nat.le_of_ble_eq_true rfl) (nx_sbl (by omega)) ⟨(nw_vbr (by omega)), trivial⟩ ⟨(nw_vbr (by omega)), (nw_vbr (by omega)), trivial⟩ (nc_X8_init (q := 1) (n := 2) f1 (by omega) (by omega) sh_1 ns_X8_init_2) (fun ad2 o2 f2 => ?_)
  have ok2 : nw_ok 1 (3) ad ad2 := nw_ok_tr ⟨by omega, by omega⟩ o1 o2
  refine am_putRF (pc := 12) (ft := tyX11 0) C dX11_init_12 f11_10 (show 0 < 3 by omega) sh_0 rfl rfl rfl (tyX11_ok 0 (by decide)) (fun _ => ⟨rfl, rfl⟩) ?_
  have f3 : nw_fr (am_up (nk_X8_init r 1 2) 0 0 (.ref 1)) h (3) := f2.pr (by omega) (by omega)
  refine am_aload_n (pc := 15) C dX11_init_15 rfl ?_
  refine nx_new (pc := 16) (ci := 10) (m := 4) (cz := (3, 409)) C dX11_init_16 f3 sh_3 (by decide) nw_de10 (am_mem 210 (by decide +kernel) rfl) (am_mem 211 (by decide +kernel) rfl) (am_mem 142 (by decide +kernel) rfl) (nx_sb (by omega)) ⟨(nw_vbr (by omega)), trivial⟩ ⟨(nw_vbr (by omega)), trivial⟩ rfl rfl (Nat.le_of_ble_eq_true rfl) (Nat.le_of_ble_eq_true rfl) (fun ad3 o3 => ?_)
  have f4 : nw_fr (am_up (nk_X8_init r 1 2) 0 0 (.ref 1)) h (4) := f3.mono (by omega)
  have ok3 : nw_ok 1 (4) ad ad3 := nw_ok_tr ⟨by omega, by omega⟩ ok2 o3
  refine am_dup (pc := 19) C dX11_init_19 rfl ?_
  refine nx_new (pc := 20) (ci := 3) (m := 5) (cz := (4, 425)) C dX11_init_20 f4 sh_4 (by decide) nw_de3 (am_mem 212 (by decide +kernel) rfl) (am_mem 213 (by decide +kernel) rfl) (am_mem 143 (by decide +kernel) rfl) (nx_sb (by omega)) ⟨(nw_vbr (by omega)), trivial⟩ ⟨(nw_vbr (by omega)), (nw_vbr (by omega)), (nw_vbr (by omega)), trivial⟩ rfl rfl (Nat.le_of_ble_eq_true rfl) (Nat.le_of_ble_eq_true rfl) (fun ad4 o4 => ?_)
  have f5 : nw_fr (am_up (nk_X8_init r 1 2) 0 0 (.ref 1)) h (5) := f4.mono (by omega)
  have ok4 : nw_ok 1 (5) ad ad4 := nw_ok_tr ⟨by omega, by omega⟩ ok3 o4
  refine am_dup (pc := 23) C dX11_init_23 rfl ?_
  refine nx_callN (Y := mX3_init) (pc := 24) (st := [.ref 4, .ref 3, .ref 3, .ref 0]) (As := []) (n' := 17) (cz := (16, 617)) C hO dX11_init_24 k11_20 v_X3_init rfl rfl (by decide) rfl (Nat.le_of_ble_eq_true rfl) (Nat.le_of_ble_eq_true rfl) (Nat.le_of_ble_eq_true rfl) (nx_sbl (by omega)) ⟨(nw_vbr (by omega)), trivial⟩ ⟨(nw_vbr (by omega)), (nw_vbr (by omega)), (nw_vbr (by omega)), (nw_vbr (by omega)), trivial⟩ (nc_X3_init (q := 4) (n := 5) f5 (by omega) (by omega) sh_4 ns_X3_init_5) (fun ad16 o16 f6 => ?_)
  have ok16 : nw_ok 1 (17) ad ad16 := nw_ok_tr ⟨by omega, by omega⟩ ok4 o16
  refine nx_new (pc := 27) (ci := 1) (m := 18) (cz := (17, 626)) C dX11_init_27 f6 sh_17 (by decide) nw_de1 (am_mem 315 (by decide +kernel) rfl) (am_mem 316 (by decide +kernel) rfl) (am_mem 144 (by decide +kernel) rfl) (nx_sb (by omega)) ⟨(nw_vbr (by omega)), trivial⟩ ⟨(nw_vbr (by omega)), (nw_vbr (by omega)), (nw_vbr (by omega)), (nw_vbr (by omega)), trivial⟩ rfl rfl (Nat.le_of_ble_eq_true rfl) (Nat.le_of_ble_eq_true rfl) (fun ad17 o17 => ?_)
  have f7 : nw_fr (nk_X3_init (am_up (nk_X8_init r 1 2) 0 0 (.ref 1)) 4 5) h (18) := f6.mono (by omega)
  have ok17 : nw_ok 1 (18) ad ad17 := nw_ok_tr ⟨by omega, by omega⟩ ok16 o17
  refine am_dup (pc := 30) C dX11_init_30 rfl ?_
  refine nx_callN (Y := mX1_init) (pc := 31) (st := [.ref 17, .ref 4, .ref 3, .ref 3, .ref 0]) (As := []) (n' := 25) (cz := (24, 1122)) C hO dX11_init_31 k11_23 v_X1_init rfl rfl (by decide) rfl (Nat.le_of_ble_eq_true rfl) (Nat.le_of_ble_eq_true rfl) (Nat.le_of_ble_eq_true rfl) (nx_sbl (by omega)) ⟨(nw_vbr (by omega)), trivial⟩ ⟨(nw_vbr (by omega)), (nw_vbr (by omega)), (nw_vbr (by omega)), (nw_vbr (by omega)), (nw_vbr (by omega)), trivial⟩ (nc_X1_init (q := 17) (n := 18) f7 (by omega) (by omega) sh_17 ns_X1_init_18) (fun ad24 o24 f8 => ?_)
  have ok24 : nw_ok 1 (25) ad ad24 := nw_ok_tr ⟨by omega, by omega⟩ ok17 o24
  refine nx_call (Y := mX10_init) (pc := 34) (st := [.ref 3, .ref 0]) (As := [.ref 4, .ref 17]) (n' := 40) (cz := (39, 1731)) C hO dX11_init_34 k11_24 v_X10_init rfl rfl (by decide) rfl (Nat.le_of_ble_eq_true rfl) (Nat.le_of_ble_eq_true rfl) (Nat.le_of_ble_eq_true rfl) (nx_sbl (by omega)) ⟨(nw_vbr (by omega)), trivial⟩ ⟨(nw_vbr (by omega)), (nw_vbr (by omega)), trivial⟩ (nc_X10_init (q := 3) (l := 4) (w := 17) (n := 25) f8 (by omega) (by omega) (by omega) (by omega) sh_3 ns_X10_init_25) (fun ad39 o39 f9 => ?_)
  have ok39 : nw_ok 1 (40) ad ad39 := nw_ok_tr ⟨by omega, by omega⟩ ok24 o39
  refine am_putRF (pc := 37) (ft := tyX11 1) C dX11_init_37 f11_27 (show 0 < 40 by omega) sh_0 rfl rfl rfl (tyX11_ok 1 (by decide)) (fun _ => ⟨rfl, rfl⟩) ?_
  have f10 : nw_fr (am_up (nk_X10_init (nk_X1_init (nk_X3_init (am_up (nk_X8_init r 1 2) 0 0 (.ref 1)) 4 5) 17 18) 3 4 17 25) 0 1 (.ref 3)) (nh_X10_init (nh_X1_init h 17 18) 3 4 17 25) (40) := f9.pr (by omega) (by omega)
  refine am_aload_n (pc := 40) C dX11_init_40 rfl ?_
  refine nx_new (pc := 41) (ci := 10) (m := 41) (cz := (40, 1734)) C dX11_init_41 f10 sh_40 (by decide) nw_de10 (am_mem 210 (by decide +kernel) rfl) (am_mem 211 (by decide +kernel) rfl) (am_mem 142 (by decide +kernel) rfl) (nx_sb (by omega)) ⟨(nw_vbr (by omega)), trivial⟩ ⟨(nw_vbr (by omega)), trivial⟩ rfl rfl (Nat.le_of_ble_eq_true rfl) (Nat.le_of_ble_eq_true rfl) (fun ad40 o40 => ?_)
  have f11 : nw_fr (am_up (nk_X10_init (nk_X1_init (nk_X3_init (am_up (nk_X8_init r 1 2) 0 0 (.ref 1)) 4 5) 17 18) 3 4 17 25) 0 1 (.ref 3)) (nh_X10_init (nh_X1_init h 17 18) 3 4 17 25) (41) := f10.mono (by omega)
  have ok40 : nw_ok 1 (41) ad ad40 := nw_ok_tr ⟨by omega, by omega⟩ ok39 o40
  refine am_dup (pc := 44) C dX11_init_44 rfl ?_
  refine am_aload_n (pc := 45) C dX11_init_45 rfl ?_
  refine am_getR (pc := 46) (j := 3) C dX11_init_46 f11_27 (show 0 < 41 by omega) sh_0 rfl ?_
  refine am_getR (pc := 49) (j := 4) C dX11_init_49 f11_31 (show 3 < 41 by omega) sh_3 rfl ?_
  refine am_aload_n (pc := 52) C dX11_init_52 rfl ?_
  refine am_getR (pc := 53) (j := 3) C dX11_init_53 f11_27 (show 0 < 41 by omega) sh_0 rfl ?_
  refine am_getR (pc := 56) (j := 17) C dX11_init_56 f11_35 (show 3 < 41 by omega) sh_3 rfl ?_
  refine nx_call (Y := mX10_init) (pc := 59) (st := [.ref 40, .ref 0]) (As := [.ref 4, .ref 17]) (n' := 56) (cz := (55, 2343)) C hO dX11_init_59 k11_24 v_X10_init rfl rfl (by decide) rfl (Nat.le_of_ble_eq_true rfl) (Nat.le_of_ble_eq_true rfl) (Nat.le_of_ble_eq_true rfl) (nx_sbl (by omega)) ⟨(nw_vbr (by omega)), trivial⟩ ⟨(nw_vbr (by omega)), (nw_vbr (by omega)), trivial⟩ (nc_X10_init (q := 40) (l := 4) (w := 17) (n := 41) f11 (by omega) (by omega) (by omega) (by omega) sh_40 ns_X10_init_41) (fun ad55 o55 f12 => ?_)
  have ok55 : nw_ok 1 (56) ad ad55 := nw_ok_tr ⟨by omega, by omega⟩ ok40 o55
  refine am_putRF (pc := 62) (ft := tyX11 2) C dX11_init_62 f11_39 (show 0 < 56 by omega) sh_0 rfl rfl rfl (tyX11_ok 2 (by decide)) (fun _ => ⟨rfl, rfl⟩) ?_
  have f13 : nw_fr (am_up (nk_X10_init (am_up (nk_X10_init (nk_X1_init (nk_X3_init (am_up (nk_X8_init r 1 2) 0 0 (.ref 1)) 4 5) 17 18) 3 4 17 25) 0 1 (.ref 3)) 40 4 17 41) 0 2 (.ref 40)) (nh_X10_init (nh_X10_init (nh_X1_init h 17 18) 3 4 17 25) 40 4 17 41) (56) := f12.pr (by omega) (by omega)
  refine am_aload_n (pc := 65) C dX11_init_65 rfl ?_
  refine nx_new (pc := 66) (ci := 10) (m := 57) (cz := (56, 2346)) C dX11_init_66 f13 sh_56 (by decide) nw_de10 (am_mem 210 (by decide +kernel) rfl) (am_mem 211 (by decide +kernel) rfl) (am_mem 142 (by decide +kernel) rfl) (nx_sb (by omega)) ⟨(nw_vbr (by omega)), trivial⟩ ⟨(nw_vbr (by omega)), trivial⟩ rfl rfl (Nat.le_of_ble_eq_true rfl) (Nat.le_of_ble_eq_true rfl) (fun ad56 o56 => ?_)
  have f14 : nw_fr (am_up (nk_X10_init (am_up (nk_X10_init (nk_X1_init (nk_X3_init (am_up (nk_X8_init r 1 2) 0 0 (.ref 1)) 4 5) 17 18) 3 4 17 25) 0 1 (.ref 3)) 40 4 17 41) 0 2 (.ref 40)) (nh_X10_init (nh_X10_init (nh_X1_init h 17 18) 3 4 17 25) 40 4 17 41) (57) := f13.mono (by omega)
  have ok56 : nw_ok 1 (57) ad ad56 := nw_ok_tr ⟨by omega, by omega⟩ ok55 o56
  refine am_dup (pc := 69) C dX11_init_69 rfl ?_
  refine nx_new (pc := 70) (ci := 3) (m := 58) (cz := (57, 2362)) C dX11_init_70 f14 sh_57 (by decide) nw_de3 (am_mem 212 (by decide +kernel) rfl) (am_mem 213 (by decide +kernel) rfl) (am_mem 143 (by decide +kernel) rfl) (nx_sb (by omega)) ⟨(nw_vbr (by omega)), trivial⟩ ⟨(nw_vbr (by omega)), (nw_vbr (by omega)), (nw_vbr (by omega)), trivial⟩ rfl rfl (Nat.le_of_ble_eq_true rfl) (Nat.le_of_ble_eq_true rfl) (fun ad57 o57 => ?_)
  have f15 : nw_fr (am_up (nk_X10_init (am_up (nk_X10_init (nk_X1_init (nk_X3_init (am_up (nk_X8_init r 1 2) 0 0 (.ref 1)) 4 5) 17 18) 3 4 17 25) 0 1 (.ref 3)) 40 4 17 41) 0 2 (.ref 40)) (nh_X10_init (nh_X10_init (nh_X1_init h 17 18) 3 4 17 25) 40 4 17 41) (58) := f14.mono (by omega)
  have ok57 : nw_ok 1 (58) ad ad57 := nw_ok_tr ⟨by omega, by omega⟩ ok56 o57
  refine am_dup (pc := 73) C dX11_init_73 rfl ?_
  refine nx_callN (Y := mX3_init) (pc := 74) (st := [.ref 57, .ref 56, .ref 56, .ref 0]) (As := []) (n' := 70) (cz := (69, 2554)) C hO dX11_init_74 k11_20 v_X3_init rfl rfl (by decide) rfl (Nat.le_of_ble_eq_true rfl) (Nat.le_of_ble_eq_true rfl) (Nat.le_of_ble_eq_true rfl) (nx_sbl (by omega)) ⟨(nw_vbr (by omega)), trivial⟩ ⟨(nw_vbr (by omega)), (nw_vbr (by omega)), (nw_vbr (by omega)), (nw_vbr (by omega)), trivial⟩ (nc_X3_init (q := 57) (n := 58) f15 (by omega) (by omega) sh_57 ns_X3_init_58) (fun ad69 o69 f16 => ?_)
  have ok69 : nw_ok 1 (70) ad ad69 := nw_ok_tr ⟨by omega, by omega⟩ ok57 o69
  refine nx_new (pc := 77) (ci := 1) (m := 71) (cz := (70, 2563)) C dX11_init_77 f16 sh_70 (by decide) nw_de1 (am_mem 315 (by decide +kernel) rfl) (am_mem 316 (by decide +kernel) rfl) (am_mem 144 (by decide +kernel) rfl) (nx_sb (by omega)) ⟨(nw_vbr (by omega)), trivial⟩ ⟨(nw_vbr (by omega)), (nw_vbr (by omega)), (nw_vbr (by omega)), (nw_vbr (by omega)), trivial⟩ rfl rfl (Nat.le_of_ble_eq_true rfl) (Nat.le_of_ble_eq_true rfl) (fun ad70 o70 => ?_)
  have f17 : nw_fr (nk_X3_init (am_up (nk_X10_init (am_up (nk_X10_init (nk_X1_init (nk_X3_init (am_up (nk_X8_init r 1 2) 0 0 (.ref 1)) 4 5) 17 18) 3 4 17 25) 0 1 (.ref 3)) 40 4 17 41) 0 2 (.ref 40)) 57 58) (nh_X10_init (nh_X10_init (nh_X1_init h 17 18) 3 4 17 25) 40 4 17 41) (71) := f16.mono (by omega)
  have ok70 : nw_ok 1 (71) ad ad70 := nw_ok_tr ⟨by omega, by omega⟩ ok69 o70
  refine am_dup (pc := 80) C dX11_init_80 rfl ?_
  refine nx_callN (Y := mX1_init) (pc := 81) (st := [.ref 70, .ref 57, .ref 56, .ref 56, .ref 0]) (As := []) (n' := 78) (cz := (77, 3059)) C hO dX11_init_81 k11_23 v_X1_init rfl rfl (by decide) rfl (Nat.le_of_ble_eq_true rfl) (Nat.le_of_ble_eq_true rfl) (Nat.le_of_ble_eq_true rfl) (nx_sbl (by omega)) ⟨(nw_vbr (by omega)), trivial⟩ ⟨(nw_vbr (by omega)), (nw_vbr (by omega)), (nw_vbr (by omega)), (nw_vbr (by omega)), (nw_vbr (by omega)), trivial⟩ (nc_X1_init (q := 70) (n := 71) f17 (by omega) (by omega) sh_70 ns_X1_init_71) (fun ad77 o77 f18 => ?_)
  have ok77 : nw_ok 1 (78) ad ad77 := nw_ok_tr ⟨by omega, by omega⟩ ok70 o77
  refine nx_call (Y := mX10_init) (pc := 84) (st := [.ref 56, .ref 0]) (As := [.ref 57, .ref 70]) (n' := 93) (cz := (92, 3668)) C hO dX11_init_84 k11_24 v_X10_init rfl rfl (by decide) rfl (Nat.le_of_ble_eq_true rfl) (Nat.le_of_ble_eq_true rfl) (Nat.le_of_ble_eq_true rfl) (nx_sbl (by omega)) ⟨(nw_vbr (by omega)), trivial⟩ ⟨(nw_vbr (by omega)), (nw_vbr (by omega)), trivial⟩ (nc_X10_init (q := 56) (l := 57) (w := 70) (n := 78) f18 (by omega) (by omega) (by omega) (by omega) sh_56 ns_X10_init_78) (fun ad92 o92 f19 => ?_)
  have ok92 : nw_ok 1 (93) ad ad92 := nw_ok_tr ⟨by omega, by omega⟩ ok77 o92
  refine am_putRF (pc := 87) (ft := tyX11 3) C dX11_init_87 f11_42 (show 0 < 93 by omega) sh_0 rfl rfl rfl (tyX11_ok 3 (by decide)) (fun _ => ⟨rfl, rfl⟩) ?_
  have f20 : nw_fr (am_up (nk_X10_init (nk_X1_init (nk_X3_init (am_up (nk_X10_init (am_up (nk_X10_init (nk_X1_init (nk_X3_init (am_up (nk_X8_init r 1 2) 0 0 (.ref 1)) 4 5) 17 18) 3 4 17 25) 0 1 (.ref 3)) 40 4 17 41) 0 2 (.ref 40)) 57 58) 70 71) 56 57 70 78) 0 3 (.ref 56)) (nh_X10_init (nh_X1_init (nh_X10_init (nh_X10_init (nh_X1_init h 17 18) 3 4 17 25) 40 4 17 41) 70 71) 56 57 70 78) (93) := f19.pr (by omega) (by omega)
  refine am_aload_n (pc := 90) C dX11_init_90 rfl ?_
  refine nx_new (pc := 91) (ci := 10) (m := 94) (cz := (93, 3671)) C dX11_init_91 f20 sh_93 (by decide) nw_de10 (am_mem 210 (by decide +kernel) rfl) (am_mem 211 (by decide +kernel) rfl) (am_mem 142 (by decide +kernel) rfl) (nx_sb (by omega)) ⟨(nw_vbr (by omega)), trivial⟩ ⟨(nw_vbr (by omega)), trivial⟩ rfl rfl (Nat.le_of_ble_eq_true rfl) (Nat.le_of_ble_eq_true rfl) (fun ad93 o93 => ?_)
  have f21 : nw_fr (am_up (nk_X10_init (nk_X1_init (nk_X3_init (am_up (nk_X10_init (am_up (nk_X10_init (nk_X1_init (nk_X3_init (am_up (nk_X8_init r 1 2) 0 0 (.ref 1)) 4 5) 17 18) 3 4 17 25) 0 1 (.ref 3)) 40 4 17 41) 0 2 (.ref 40)) 57 58) 70 71) 56 57 70 78) 0 3 (.ref 56)) (nh_X10_init (nh_X1_init (nh_X10_init (nh_X10_init (nh_X1_init h 17 18) 3 4 17 25) 40 4 17 41) 70 71) 56 57 70 78) (94) := f20.mono (by omega)
  have ok93 : nw_ok 1 (94) ad ad93 := nw_ok_tr ⟨by omega, by omega⟩ ok92 o93
  refine am_dup (pc := 94) C dX11_init_94 rfl ?_
  refine nx_new (pc := 95) (ci := 3) (m := 95) (cz := (94, 3687)) C dX11_init_95 f21 sh_94 (by decide) nw_de3 (am_mem 212 (by decide +kernel) rfl) (am_mem 213 (by decide +kernel) rfl) (am_mem 143 (by decide +kernel) rfl) (nx_sb (by omega)) ⟨(nw_vbr (by omega)), trivial⟩ ⟨(nw_vbr (by omega)), (nw_vbr (by omega)), (nw_vbr (by omega)), trivial⟩ rfl rfl (Nat.le_of_ble_eq_true rfl) (Nat.le_of_ble_eq_true rfl) (fun ad94 o94 => ?_)
  have f22 : nw_fr (am_up (nk_X10_init (nk_X1_init (nk_X3_init (am_up (nk_X10_init (am_up (nk_X10_init (nk_X1_init (nk_X3_init (am_up (nk_X8_init r 1 2) 0 0 (.ref 1)) 4 5) 17 18) 3 4 17 25) 0 1 (.ref 3)) 40 4 17 41) 0 2 (.ref 40)) 57 58) 70 71) 56 57 70 78) 0 3 (.ref 56)) (nh_X10_init (nh_X1_init (nh_X10_init (nh_X10_init (nh_X1_init h 17 18) 3 4 17 25) 40 4 17 41) 70 71) 56 57 70 78) (95) := f21.mono (by omega)
  have ok94 : nw_ok 1 (95) ad ad94 := nw_ok_tr ⟨by omega, by omega⟩ ok93 o94
  refine am_dup (pc := 98) C dX11_init_98 rfl ?_
  refine nx_callN (Y := mX3_init) (pc := 99) (st := [.ref 94, .ref 93, .ref 93, .ref 0]) (As := []) (n' := 107) (cz := (106, 3879)) C hO dX11_init_99 k11_20 v_X3_init rfl rfl (by decide) rfl (Nat.le_of_ble_eq_true rfl) (Nat.le_of_ble_eq_true rfl) (Nat.le_of_ble_eq_true rfl) (nx_sbl (by omega)) ⟨(nw_vbr (by omega)), trivial⟩ ⟨(nw_vbr (by omega)), (nw_vbr (by omega)), (nw_vbr (by omega)), (nw_vbr (by omega)), trivial⟩ (nc_X3_init (q := 94) (n := 95) f22 (by omega) (by omega) sh_94 ns_X3_init_95) (fun ad106 o106 f23 => ?_)
  have ok106 : nw_ok 1 (107) ad ad106 := nw_ok_tr ⟨by omega, by omega⟩ ok94 o106
  refine nx_new (pc := 102) (ci := 1) (m := 108) (cz := (107, 3888)) C dX11_init_102 f23 sh_107 (by decide) nw_de1 (am_mem 315 (by decide +kernel) rfl) (am_mem 316 (by decide +kernel) rfl) (am_mem 144 (by decide +kernel) rfl) (nx_sb (by omega)) ⟨(nw_vbr (by omega)), trivial⟩ ⟨(nw_vbr (by omega)), (nw_vbr (by omega)), (nw_vbr (by omega)), (nw_vbr (by omega)), trivial⟩ rfl rfl (Nat.le_of_ble_eq_true rfl) (Nat.le_of_ble_eq_true rfl) (fun ad107 o107 => ?_)
  have f24 : nw_fr (nk_X3_init (am_up (nk_X10_init (nk_X1_init (nk_X3_init (am_up (nk_X10_init (am_up (nk_X10_init (nk_X1_init (nk_X3_init (am_up (nk_X8_init r 1 2) 0 0 (.ref 1)) 4 5) 17 18) 3 4 17 25) 0 1 (.ref 3)) 40 4 17 41) 0 2 (.ref 40)) 57 58) 70 71) 56 57 70 78) 0 3 (.ref 56)) 94 95) (nh_X10_init (nh_X1_init (nh_X10_init (nh_X10_init (nh_X1_init h 17 18) 3 4 17 25) 40 4 17 41) 70 71) 56 57 70 78) (108) := f23.mono (by omega)
  have ok107 : nw_ok 1 (108) ad ad107 := nw_ok_tr ⟨by omega, by omega⟩ ok106 o107
  refine am_dup (pc := 105) C dX11_init_105 rfl ?_
  refine nx_callN (Y := mX1_init) (pc := 106) (st := [.ref 107, .ref 94, .ref 93, .ref 93, .ref 0]) (As := []) (n' := 115) (cz := (114, 4384)) C hO dX11_init_106 k11_23 v_X1_init rfl rfl (by decide) rfl (Nat.le_of_ble_eq_true rfl) (Nat.le_of_ble_eq_true rfl) (Nat.le_of_ble_eq_true rfl) (nx_sbl (by omega)) ⟨(nw_vbr (by omega)), trivial⟩ ⟨(nw_vbr (by omega)), (nw_vbr (by omega)), (nw_vbr (by omega)), (nw_vbr (by omega)), (nw_vbr (by omega)), trivial⟩ (nc_X1_init (q := 107) (n := 108) f24 (by omega) (by omega) sh_107 ns_X1_init_108) (fun ad114 o114 f25 => ?_)
  have ok114 : nw_ok 1 (115) ad ad114 := nw_ok_tr ⟨by omega, by omega⟩ ok107 o114
  refine nx_call (Y := mX10_init) (pc := 109) (st := [.ref 93, .ref 0]) (As := [.ref 94, .ref 107]) (n' := 130) (cz := (129, 4993)) C hO dX11_init_109 k11_24 v_X10_init rfl rfl (by decide) rfl (Nat.le_of_ble_eq_true rfl) (Nat.le_of_ble_eq_true rfl) (Nat.le_of_ble_eq_true rfl) (nx_sbl (by omega)) ⟨(nw_vbr (by omega)), trivial⟩ ⟨(nw_vbr (by omega)), (nw_vbr (by omega)), trivial⟩ (nc_X10_init (q := 93) (l := 94) (w := 107) (n := 115) f25 (by omega) (by omega) (by omega) (by omega) sh_93 ns_X10_init_115) (fun ad129 o129 f26 => ?_)
  have ok129 : nw_ok 1 (130) ad ad129 := nw_ok_tr ⟨by omega, by omega⟩ ok114 o129
  refine am_putRF (pc := 112) (ft := tyX11 4) C dX11_init_112 f11_45 (show 0 < 130 by omega) sh_0 rfl rfl rfl (tyX11_ok 4 (by decide)) (fun _ => ⟨rfl, rfl⟩) ?_
  have f27 : nw_fr (am_up (nk_X10_init (nk_X1_init (nk_X3_init (am_up (nk_X10_init (nk_X1_init (nk_X3_init (am_up (nk_X10_init (am_up (nk_X10_init (nk_X1_init (nk_X3_init (am_up (nk_X8_init r 1 2) 0 0 (.ref 1)) 4 5) 17 18) 3 4 17 25) 0 1 (.ref 3)) 40 4 17 41) 0 2 (.ref 40)) 57 58) 70 71) 56 57 70 78) 0 3 (.ref 56)) 94 95) 107 108) 93 94 107 115) 0 4 (.ref 93)) (nh_X10_init (nh_X1_init (nh_X10_init (nh_X1_init (nh_X10_init (nh_X10_init (nh_X1_init h 17 18) 3 4 17 25) 40 4 17 41) 70 71) 56 57 70 78) 107 108) 93 94 107 115) (130) := f26.pr (by omega) (by omega)
  refine am_aload_n (pc := 115) C dX11_init_115 rfl ?_
  refine nx_new (pc := 116) (ci := 9) (m := 131) (cz := (130, 4997)) C dX11_init_116 f27 sh_130 (by decide) nw_de9 (am_mem 469 (by decide +kernel) rfl) (am_mem 470 (by decide +kernel) rfl) (am_mem 146 (by decide +kernel) rfl) (nx_sb (by omega)) ⟨(nw_vbr (by omega)), trivial⟩ ⟨(nw_vbr (by omega)), trivial⟩ rfl rfl (Nat.le_of_ble_eq_true rfl) (Nat.le_of_ble_eq_true rfl) (fun ad130 o130 => ?_)
  have f28 : nw_fr (am_up (nk_X10_init (nk_X1_init (nk_X3_init (am_up (nk_X10_init (nk_X1_init (nk_X3_init (am_up (nk_X10_init (am_up (nk_X10_init (nk_X1_init (nk_X3_init (am_up (nk_X8_init r 1 2) 0 0 (.ref 1)) 4 5) 17 18) 3 4 17 25) 0 1 (.ref 3)) 40 4 17 41) 0 2 (.ref 40)) 57 58) 70 71) 56 57 70 78) 0 3 (.ref 56)) 94 95) 107 108) 93 94 107 115) 0 4 (.ref 93)) (nh_X10_init (nh_X1_init (nh_X10_init (nh_X1_init (nh_X10_init (nh_X10_init (nh_X1_init h 17 18) 3 4 17 25) 40 4 17 41) 70 71) 56 57 70 78) 107 108) 93 94 107 115) (131) := f27.mono (by omega)
  have ok130 : nw_ok 1 (131) ad ad130 := nw_ok_tr ⟨by omega, by omega⟩ ok129 o130
  refine am_dup (pc := 119) C dX11_init_119 rfl ?_
  refine am_aload_n (pc := 120) C dX11_init_120 rfl ?_
  refine am_getR (pc := 121) (j := 1) C dX11_init_121 f11_10 (show 0 < 131 by omega) sh_0 rfl ?_
  refine am_aload_n (pc := 124) C dX11_init_124 rfl ?_
  refine am_getR (pc := 125) (j := 56) C dX11_init_125 f11_42 (show 0 < 131 by omega) sh_0 rfl ?_
  refine nx_call (Y := mX9_init) (pc := 128) (st := [.ref 130, .ref 0]) (As := [.ref 1, .ref 56]) (n' := 131) (cz := (130, 4997)) C hO dX11_init_128 k11_50 v_X9_init rfl rfl (by decide) rfl (Nat.le_of_ble_eq_true rfl) (Nat.le_of_ble_eq_true rfl) (Nat.le_of_ble_eq_true rfl) (nx_sbl (by omega)) ⟨(nw_vbr (by omega)), trivial⟩ ⟨(nw_vbr (by omega)), (nw_vbr (by omega)), trivial⟩ (nc_X9_init f28 rfl) (fun ad130 o130 f29 => ?_)
  have ok130 : nw_ok 1 (131) ad ad130 := nw_ok_tr ⟨by omega, by omega⟩ ok130 o130
  refine am_putRF (pc := 131) (ft := tyX11 5) C dX11_init_131 f11_53 (show 0 < 131 by omega) sh_0 rfl rfl rfl (tyX11_ok 5 (by decide)) (fun _ => ⟨rfl, rfl⟩) ?_
  have f30 : nw_fr (am_up (nk_X9_init (am_up (nk_X10_init (nk_X1_init (nk_X3_init (am_up (nk_X10_init (nk_X1_init (nk_X3_init (am_up (nk_X10_init (am_up (nk_X10_init (nk_X1_init (nk_X3_init (am_up (nk_X8_init r 1 2) 0 0 (.ref 1)) 4 5) 17 18) 3 4 17 25) 0 1 (.ref 3)) 40 4 17 41) 0 2 (.ref 40)) 57 58) 70 71) 56 57 70 78) 0 3 (.ref 56)) 94 95) 107 108) 93 94 107 115) 0 4 (.ref 93))) 0 5 (.ref 130)) (nh_X10_init (nh_X1_init (nh_X10_init (nh_X1_init (nh_X10_init (nh_X10_init (nh_X1_init h 17 18) 3 4 17 25) 40 4 17 41) 70 71) 56 57 70 78) 107 108) 93 94 107 115) (131) := f29.pr (by omega) (by omega)
  refine am_aload_n (pc := 134) C dX11_init_134 rfl ?_
  refine nx_new (pc := 135) (ci := 2) (m := 132) (cz := (131, 4999)) C dX11_init_135 f30 sh_131 (by decide) nw_de2 (am_mem 488 (by decide +kernel) rfl) (am_mem 489 (by decide +kernel) rfl) (am_mem 147 (by decide +kernel) rfl) (nx_sb (by omega)) ⟨(nw_vbr (by omega)), trivial⟩ ⟨(nw_vbr (by omega)), trivial⟩ rfl rfl (Nat.le_of_ble_eq_true rfl) (Nat.le_of_ble_eq_true rfl) (fun ad131 o131 => ?_)
  have f31 : nw_fr (am_up (nk_X9_init (am_up (nk_X10_init (nk_X1_init (nk_X3_init (am_up (nk_X10_init (nk_X1_init (nk_X3_init (am_up (nk_X10_init (am_up (nk_X10_init (nk_X1_init (nk_X3_init (am_up (nk_X8_init r 1 2) 0 0 (.ref 1)) 4 5) 17 18) 3 4 17 25) 0 1 (.ref 3)) 40 4 17 41) 0 2 (.ref 40)) 57 58) 70 71) 56 57 70 78) 0 3 (.ref 56)) 94 95) 107 108) 93 94 107 115) 0 4 (.ref 93))) 0 5 (.ref 130)) (nh_X10_init (nh_X1_init (nh_X10_init (nh_X1_init (nh_X10_init (nh_X10_init (nh_X1_init h 17 18) 3 4 17 25) 40 4 17 41) 70 71) 56 57 70 78) 107 108) 93 94 107 115) (132) := f30.mono (by omega)
  have ok131 : nw_ok 1 (132) ad ad131 := nw_ok_tr ⟨by omega, by omega⟩ ok130 o131
  refine am_dup (pc := 138) C dX11_init_138 rfl ?_
  refine am_aload_n (pc := 139) C dX11_init_139 rfl ?_
  refine am_getR (pc := 140) (j := 1) C dX11_init_140 f11_10 (show 0 < 132 by omega) sh_0 rfl ?_
  refine am_aload_n (pc := 143) C dX11_init_143 rfl ?_
  refine am_getR (pc := 144) (j := 56) C dX11_init_144 f11_42 (show 0 < 132 by omega) sh_0 rfl ?_
  refine am_getR (pc := 147) (j := 70) C dX11_init_147 f11_35 (show 56 < 132 by omega) sh_56 rfl ?_
  refine nx_call (Y := mX2_init) (pc := 150) (st := [.ref 131, .ref 0]) (As := [.ref 1, .ref 70]) (n' := 132) (cz := (131, 4999)) C hO dX11_init_150 k11_59 v_X2_init rfl rfl (by decide) rfl (Nat.le_of_ble_eq_true rfl) (Nat.le_of_ble_eq_true rfl) (Nat.le_of_ble_eq_true rfl) (nx_sbl (by omega)) ⟨(nw_vbr (by omega)), trivial⟩ ⟨(nw_vbr (by omega)), (nw_vbr (by omega)), trivial⟩ (nc_X2_init (q := 131) (t := 1) (l := 70) (n := 132) f31 (by omega) (by omega) (by omega) (by omega) sh_131) (fun ad131 o131 f32 => ?_)
  have ok131 : nw_ok 1 (132) ad ad131 := nw_ok_tr ⟨by omega, by omega⟩ ok131 o131
  refine am_putRF (pc := 153) (ft := tyX11 6) C dX11_init_153 f11_62 (show 0 < 132 by omega) sh_0 rfl rfl rfl (tyX11_ok 6 (by decide)) (fun _ => ⟨rfl, rfl⟩) ?_
  have f33 : nw_fr (am_up (nk_X2_init (am_up (nk_X9_init (am_up (nk_X10_init (nk_X1_init (nk_X3_init (am_up (nk_X10_init (nk_X1_init (nk_X3_init (am_up (nk_X10_init (am_up (nk_X10_init (nk_X1_init (nk_X3_init (am_up (nk_X8_init r 1 2) 0 0 (.ref 1)) 4 5) 17 18) 3 4 17 25) 0 1 (.ref 3)) 40 4 17 41) 0 2 (.ref 40)) 57 58) 70 71) 56 57 70 78) 0 3 (.ref 56)) 94 95) 107 108) 93 94 107 115) 0 4 (.ref 93))) 0 5 (.ref 130)) 131 1 70 132) 0 6 (.ref 131)) (nh_X10_init (nh_X1_init (nh_X10_init (nh_X1_init (nh_X10_init (nh_X10_init (nh_X1_init h 17 18) 3 4 17 25) 40 4 17 41) 70 71) 56 57 70 78) 107 108) 93 94 107 115) (132) := f32.pr (by omega) (by omega)
  refine am_aload_n (pc := 156) C dX11_init_156 rfl ?_
  refine nx_new (pc := 157) (ci := 4) (m := 133) (cz := (132, 5001)) C dX11_init_157 f33 sh_132 (by decide) nw_de4 (am_mem 501 (by decide +kernel) rfl) (am_mem 502 (by decide +kernel) rfl) (am_mem 148 (by decide +kernel) rfl) (nx_sb (by omega)) ⟨(nw_vbr (by omega)), trivial⟩ ⟨(nw_vbr (by omega)), trivial⟩ rfl rfl (Nat.le_of_ble_eq_true rfl) (Nat.le_of_ble_eq_true rfl) (fun ad132 o132 => ?_)
  have f34 : nw_fr (am_up (nk_X2_init (am_up (nk_X9_init (am_up (nk_X10_init (nk_X1_init (nk_X3_init (am_up (nk_X10_init (nk_X1_init (nk_X3_init (am_up (nk_X10_init (am_up (nk_X10_init (nk_X1_init (nk_X3_init (am_up (nk_X8_init r 1 2) 0 0 (.ref 1)) 4 5) 17 18) 3 4 17 25) 0 1 (.ref 3)) 40 4 17 41) 0 2 (.ref 40)) 57 58) 70 71) 56 57 70 78) 0 3 (.ref 56)) 94 95) 107 108) 93 94 107 115) 0 4 (.ref 93))) 0 5 (.ref 130)) 131 1 70 132) 0 6 (.ref 131)) (nh_X10_init (nh_X1_init (nh_X10_init (nh_X1_init (nh_X10_init (nh_X10_init (nh_X1_init h 17 18) 3 4 17 25) 40 4 17 41) 70 71) 56 57 70 78) 107 108) 93 94 107 115) (133) := f33.mono (by omega)
  have ok132 : nw_ok 1 (133) ad ad132 := nw_ok_tr ⟨by omega, by omega⟩ ok131 o132
  refine am_dup (pc := 160) C dX11_init_160 rfl ?_
  refine nx_call (Y := mX4_init) (pc := 161) (st := [.ref 132, .ref 0]) (As := []) (n' := 314) (cz := (313, 12321)) C hO dX11_init_161 k11_68 v_X4_init rfl rfl (by decide) rfl (Nat.le_of_ble_eq_true rfl) (Nat.le_of_ble_eq_true rfl) (Nat.le_of_ble_eq_true rfl) (nx_sbl (by omega)) ⟨(nw_vbr (by omega)), trivial⟩ ⟨(nw_vbr (by omega)), (nw_vbr (by omega)), trivial⟩ (nc_X4_init f34) (fun ad313 o313 f35 => ?_)
  have ok313 : nw_ok 1 (314) ad ad313 := nw_ok_tr ⟨by omega, by omega⟩ ok132 o313
  refine am_putRF (pc := 164) (ft := tyX11 7) C dX11_init_164 f11_69 (show 0 < 314 by omega) sh_0 rfl rfl rfl (tyX11_ok 7 (by decide)) (fun _ => ⟨rfl, rfl⟩) ?_
  have f36 : nw_fr (am_up (nk_X4l (am_up (nk_X2_init (am_up (nk_X9_init (am_up (nk_X10_init (nk_X1_init (nk_X3_init (am_up (nk_X10_init (nk_X1_init (nk_X3_init (am_up (nk_X10_init (am_up (nk_X10_init (nk_X1_init (nk_X3_init (am_up (nk_X8_init r 1 2) 0 0 (.ref 1)) 4 5) 17 18) 3 4 17 25) 0 1 (.ref 3)) 40 4 17 41) 0 2 (.ref 40)) 57 58) 70 71) 56 57 70 78) 0 3 (.ref 56)) 94 95) 107 108) 93 94 107 115) 0 4 (.ref 93))) 0 5 (.ref 130)) 131 1 70 132) 0 6 (.ref 131)) 12) 0 7 (.ref 132)) (nh_X4l (nh_X10_init (nh_X1_init (nh_X10_init (nh_X1_init (nh_X10_init (nh_X10_init (nh_X1_init h 17 18) 3 4 17 25) 40 4 17 41) 70 71) 56 57 70 78) 107 108) 93 94 107 115) 12) (314) := f35.pr (by omega) (by omega)
  refine am_aload_n (pc := 167) C dX11_init_167 rfl ?_
  refine nx_new (pc := 168) (ci := 6) (m := 315) (cz := (314, 12325)) C dX11_init_168 f36 sh_314 (by decide) nw_de6 (am_mem 518 (by decide +kernel) rfl) (am_mem 519 (by decide +kernel) rfl) (am_mem 149 (by decide +kernel) rfl) (nx_sb (by omega)) ⟨(nw_vbr (by omega)), trivial⟩ ⟨(nw_vbr (by omega)), trivial⟩ rfl rfl (Nat.le_of_ble_eq_true rfl) (Nat.le_of_ble_eq_true rfl) (fun ad314 o314 => ?_)
  have f37 : nw_fr (am_up (nk_X4l (am_up (nk_X2_init (am_up (nk_X9_init (am_up (nk_X10_init (nk_X1_init (nk_X3_init (am_up (nk_X10_init (nk_X1_init (nk_X3_init (am_up (nk_X10_init (am_up (nk_X10_init (nk_X1_init (nk_X3_init (am_up (nk_X8_init r 1 2) 0 0 (.ref 1)) 4 5) 17 18) 3 4 17 25) 0 1 (.ref 3)) 40 4 17 41) 0 2 (.ref 40)) 57 58) 70 71) 56 57 70 78) 0 3 (.ref 56)) 94 95) 107 108) 93 94 107 115) 0 4 (.ref 93))) 0 5 (.ref 130)) 131 1 70 132) 0 6 (.ref 131)) 12) 0 7 (.ref 132)) (nh_X4l (nh_X10_init (nh_X1_init (nh_X10_init (nh_X1_init (nh_X10_init (nh_X10_init (nh_X1_init h 17 18) 3 4 17 25) 40 4 17 41) 70 71) 56 57 70 78) 107 108) 93 94 107 115) 12) (315) := f36.mono (by omega)
  have ok314 : nw_ok 1 (315) ad ad314 := nw_ok_tr ⟨by omega, by omega⟩ ok313 o314
  refine am_dup (pc := 171) C dX11_init_171 rfl ?_
  refine am_aload_n (pc := 172) C dX11_init_172 rfl ?_
  refine am_getR (pc := 173) (j := 3) C dX11_init_173 f11_27 (show 0 < 315 by omega) sh_0 rfl ?_
  refine nx_call (Y := mX6_init) (pc := 176) (st := [.ref 314, .ref 0]) (As := [.ref 3]) (n' := 316) (cz := (315, 12335)) C hO dX11_init_176 k11_75 v_X6_init rfl rfl (by decide) rfl (Nat.le_of_ble_eq_true rfl) (Nat.le_of_ble_eq_true rfl) (Nat.le_of_ble_eq_true rfl) (nx_sbl (by omega)) ⟨(nw_vbr (by omega)), trivial⟩ ⟨(nw_vbr (by omega)), (nw_vbr (by omega)), trivial⟩ (nc_X6_init f37 rfl rfl) (fun ad315 o315 f38 => ?_)
  have ok315 : nw_ok 1 (316) ad ad315 := nw_ok_tr ⟨by omega, by omega⟩ ok314 o315
  refine am_putRF (pc := 179) (ft := tyX11 8) C dX11_init_179 f11_78 (show 0 < 316 by omega) sh_0 rfl rfl rfl (tyX11_ok 8 (by decide)) (fun _ => ⟨rfl, rfl⟩) ?_
  have f39 : nw_fr (am_up (nk_X6_init (am_up (nk_X4l (am_up (nk_X2_init (am_up (nk_X9_init (am_up (nk_X10_init (nk_X1_init (nk_X3_init (am_up (nk_X10_init (nk_X1_init (nk_X3_init (am_up (nk_X10_init (am_up (nk_X10_init (nk_X1_init (nk_X3_init (am_up (nk_X8_init r 1 2) 0 0 (.ref 1)) 4 5) 17 18) 3 4 17 25) 0 1 (.ref 3)) 40 4 17 41) 0 2 (.ref 40)) 57 58) 70 71) 56 57 70 78) 0 3 (.ref 56)) 94 95) 107 108) 93 94 107 115) 0 4 (.ref 93))) 0 5 (.ref 130)) 131 1 70 132) 0 6 (.ref 131)) 12) 0 7 (.ref 132))) 0 8 (.ref 314)) (nh_X4l (nh_X10_init (nh_X1_init (nh_X10_init (nh_X1_init (nh_X10_init (nh_X10_init (nh_X1_init h 17 18) 3 4 17 25) 40 4 17 41) 70 71) 56 57 70 78) 107 108) 93 94 107 115) 12) (316) := f38.pr (by omega) (by omega)
  refine am_aload_n (pc := 182) C dX11_init_182 rfl ?_
  refine nx_new (pc := 183) (ci := 7) (m := 317) (cz := (316, 12338)) C dX11_init_183 f39 sh_316 (by decide) nw_de7 (am_mem 537 (by decide +kernel) rfl) (am_mem 538 (by decide +kernel) rfl) (am_mem 150 (by decide +kernel) rfl) (nx_sb (by omega)) ⟨(nw_vbr (by omega)), trivial⟩ ⟨(nw_vbr (by omega)), trivial⟩ rfl rfl (Nat.le_of_ble_eq_true rfl) (Nat.le_of_ble_eq_true rfl) (fun ad316 o316 => ?_)
  have f40 : nw_fr (am_up (nk_X6_init (am_up (nk_X4l (am_up (nk_X2_init (am_up (nk_X9_init (am_up (nk_X10_init (nk_X1_init (nk_X3_init (am_up (nk_X10_init (nk_X1_init (nk_X3_init (am_up (nk_X10_init (am_up (nk_X10_init (nk_X1_init (nk_X3_init (am_up (nk_X8_init r 1 2) 0 0 (.ref 1)) 4 5) 17 18) 3 4 17 25) 0 1 (.ref 3)) 40 4 17 41) 0 2 (.ref 40)) 57 58) 70 71) 56 57 70 78) 0 3 (.ref 56)) 94 95) 107 108) 93 94 107 115) 0 4 (.ref 93))) 0 5 (.ref 130)) 131 1 70 132) 0 6 (.ref 131)) 12) 0 7 (.ref 132))) 0 8 (.ref 314)) (nh_X4l (nh_X10_init (nh_X1_init (nh_X10_init (nh_X1_init (nh_X10_init (nh_X10_init (nh_X1_init h 17 18) 3 4 17 25) 40 4 17 41) 70 71) 56 57 70 78) 107 108) 93 94 107 115) 12) (317) := f39.mono (by omega)
  have ok316 : nw_ok 1 (317) ad ad316 := nw_ok_tr ⟨by omega, by omega⟩ ok315 o316
  refine am_dup (pc := 186) C dX11_init_186 rfl ?_
  refine am_aload_n (pc := 187) C dX11_init_187 rfl ?_
  refine am_getR (pc := 188) (j := 3) C dX11_init_188 f11_27 (show 0 < 317 by omega) sh_0 rfl ?_
  refine nx_call (Y := mX7_init) (pc := 191) (st := [.ref 316, .ref 0]) (As := [.ref 3]) (n' := 318) (cz := (317, 12826)) C hO dX11_init_191 k11_84 v_X7_init rfl rfl (by decide) rfl (Nat.le_of_ble_eq_true rfl) (Nat.le_of_ble_eq_true rfl) (Nat.le_of_ble_eq_true rfl) (nx_sbl (by omega)) ⟨(nw_vbr (by omega)), trivial⟩ ⟨(nw_vbr (by omega)), (nw_vbr (by omega)), trivial⟩ (nc_X7_init (q := 316) (w := 3) (n := 317) f40 (by omega) (by omega) (by omega) sh_316 ns_X7_init_317) (fun ad317 o317 f41 => ?_)
  have ok317 : nw_ok 1 (318) ad ad317 := nw_ok_tr ⟨by omega, by omega⟩ ok316 o317
  refine am_putRF (pc := 194) (ft := tyX11 9) C dX11_init_194 f11_85 (show 0 < 318 by omega) sh_0 rfl rfl rfl (tyX11_ok 9 (by decide)) (fun _ => ⟨rfl, rfl⟩) ?_
  have f42 : nw_fr (am_up (nk_X7_init (am_up (nk_X6_init (am_up (nk_X4l (am_up (nk_X2_init (am_up (nk_X9_init (am_up (nk_X10_init (nk_X1_init (nk_X3_init (am_up (nk_X10_init (nk_X1_init (nk_X3_init (am_up (nk_X10_init (am_up (nk_X10_init (nk_X1_init (nk_X3_init (am_up (nk_X8_init r 1 2) 0 0 (.ref 1)) 4 5) 17 18) 3 4 17 25) 0 1 (.ref 3)) 40 4 17 41) 0 2 (.ref 40)) 57 58) 70 71) 56 57 70 78) 0 3 (.ref 56)) 94 95) 107 108) 93 94 107 115) 0 4 (.ref 93))) 0 5 (.ref 130)) 131 1 70 132) 0 6 (.ref 131)) 12) 0 7 (.ref 132))) 0 8 (.ref 314)) 316 3 317) 0 9 (.ref 316)) (nh_X4l (nh_X10_init (nh_X1_init (nh_X10_init (nh_X1_init (nh_X10_init (nh_X10_init (nh_X1_init h 17 18) 3 4 17 25) 40 4 17 41) 70 71) 56 57 70 78) 107 108) 93 94 107 115) 12) (318) := f41.pr (by omega) (by omega)
  refine am_aload_n (pc := 197) C dX11_init_197 rfl ?_
  refine nx_new (pc := 198) (ci := 0) (m := 319) (cz := (318, 12831)) C dX11_init_198 f42 sh_318 (by decide) nw_de0 (am_mem 553 (by decide +kernel) rfl) (am_mem 554 (by decide +kernel) rfl) (am_mem 151 (by decide +kernel) rfl) (nx_sb (by omega)) ⟨(nw_vbr (by omega)), trivial⟩ ⟨(nw_vbr (by omega)), trivial⟩ rfl rfl (Nat.le_of_ble_eq_true rfl) (Nat.le_of_ble_eq_true rfl) (fun ad318 o318 => ?_)
  have f43 : nw_fr (am_up (nk_X7_init (am_up (nk_X6_init (am_up (nk_X4l (am_up (nk_X2_init (am_up (nk_X9_init (am_up (nk_X10_init (nk_X1_init (nk_X3_init (am_up (nk_X10_init (nk_X1_init (nk_X3_init (am_up (nk_X10_init (am_up (nk_X10_init (nk_X1_init (nk_X3_init (am_up (nk_X8_init r 1 2) 0 0 (.ref 1)) 4 5) 17 18) 3 4 17 25) 0 1 (.ref 3)) 40 4 17 41) 0 2 (.ref 40)) 57 58) 70 71) 56 57 70 78) 0 3 (.ref 56)) 94 95) 107 108) 93 94 107 115) 0 4 (.ref 93))) 0 5 (.ref 130)) 131 1 70 132) 0 6 (.ref 131)) 12) 0 7 (.ref 132))) 0 8 (.ref 314)) 316 3 317) 0 9 (.ref 316)) (nh_X4l (nh_X10_init (nh_X1_init (nh_X10_init (nh_X1_init (nh_X10_init (nh_X10_init (nh_X1_init h 17 18) 3 4 17 25) 40 4 17 41) 70 71) 56 57 70 78) 107 108) 93 94 107 115) 12) (319) := f42.mono (by omega)
  have ok318 : nw_ok 1 (319) ad ad318 := nw_ok_tr ⟨by omega, by omega⟩ ok317 o318
  refine am_dup (pc := 201) C dX11_init_201 rfl ?_
  refine am_aload_n (pc := 202) C dX11_init_202 rfl ?_
  refine am_getR (pc := 203) (j := 3) C dX11_init_203 f11_27 (show 0 < 319 by omega) sh_0 rfl ?_
  refine nx_call (Y := mX0_init) (pc := 206) (st := [.ref 318, .ref 0]) (As := [.ref 3]) (n' := 322) (cz := (321, 13871)) C hO dX11_init_206 k11_91 v_X0_init rfl rfl (by decide) rfl (Nat.le_of_ble_eq_true rfl) (Nat.le_of_ble_eq_true rfl) (Nat.le_of_ble_eq_true rfl) (nx_sbl (by omega)) ⟨(nw_vbr (by omega)), trivial⟩ ⟨(nw_vbr (by omega)), (nw_vbr (by omega)), trivial⟩ (nc_X0_init (q := 318) (w := 3) (n := 319) f43 (by omega) (by omega) (by omega) sh_318 ns_X0_init_319) (fun ad321 o321 f44 => ?_)
  have ok321 : nw_ok 1 (322) ad ad321 := nw_ok_tr ⟨by omega, by omega⟩ ok318 o321
  refine am_putRF (pc := 209) (ft := tyX11 10) C dX11_init_209 f11_92 (show 0 < 322 by omega) sh_0 rfl rfl rfl (tyX11_ok 10 (by decide)) (fun _ => ⟨rfl, rfl⟩) ?_
  have f45 : nw_fr (am_up (nk_X0_init (am_up (nk_X7_init (am_up (nk_X6_init (am_up (nk_X4l (am_up (nk_X2_init (am_up (nk_X9_init (am_up (nk_X10_init (nk_X1_init (nk_X3_init (am_up (nk_X10_init (nk_X1_init (nk_X3_init (am_up (nk_X10_init (am_up (nk_X10_init (nk_X1_init (nk_X3_init (am_up (nk_X8_init r 1 2) 0 0 (.ref 1)) 4 5) 17 18) 3 4 17 25) 0 1 (.ref 3)) 40 4 17 41) 0 2 (.ref 40)) 57 58) 70 71) 56 57 70 78) 0 3 (.ref 56)) 94 95) 107 108) 93 94 107 115) 0 4 (.ref 93))) 0 5 (.ref 130)) 131 1 70 132) 0 6 (.ref 131)) 12) 0 7 (.ref 132))) 0 8 (.ref 314)) 316 3 317) 0 9 (.ref 316)) 318 3 319) 0 10 (.ref 318)) (nh_X4l (nh_X10_init (nh_X1_init (nh_X10_init (nh_X1_init (nh_X10_init (nh_X10_init (nh_X1_init h 17 18) 3 4 17 25) 40 4 17 41) 70 71) 56 57 70 78) 107 108) 93 94 107 115) 12) (322) := f44.pr (by omega) (by omega)
  refine am_aload_n (pc := 212) C dX11_init_212 rfl ?_
  refine am_iconstN (pc := 213) (k := 0) C dX11_init_213 ?_
  refine am_putZ (pc := 214) C dX11_init_214 f11_96 (show 0 < 322 by omega) sh_0 rfl rfl (Or.inl rfl) ?_
  have f46 : nw_fr (am_up (nk_X0_init (am_up (nk_X7_init (am_up (nk_X6_init (am_up (nk_X4l (am_up (nk_X2_init (am_up (nk_X9_init (am_up (nk_X10_init (nk_X1_init (nk_X3_init (am_up (nk_X10_init (nk_X1_init (nk_X3_init (am_up (nk_X10_init (am_up (nk_X10_init (nk_X1_init (nk_X3_init (am_up (nk_X8_init r 1 2) 0 0 (.ref 1)) 4 5) 17 18) 3 4 17 25) 0 1 (.ref 3)) 40 4 17 41) 0 2 (.ref 40)) 57 58) 70 71) 56 57 70 78) 0 3 (.ref 56)) 94 95) 107 108) 93 94 107 115) 0 4 (.ref 93))) 0 5 (.ref 130)) 131 1 70 132) 0 6 (.ref 131)) 12) 0 7 (.ref 132))) 0 8 (.ref 314)) 316 3 317) 0 9 (.ref 316)) 318 3 319) 0 10 (.ref 318)) (am_up (nh_X4l (nh_X10_init (nh_X1_init (nh_X10_init (nh_X1_init (nh_X10_init (nh_X10_init (nh_X1_init h 17 18) 3 4 17 25) 40 4 17 41) 70 71) 56 57 70 78) 107 108) 93 94 107 115) 12) 0 11 (nI 0)) (322) := f45.ph (by omega)
  refine am_aload_n (pc := 217) C dX11_init_217 rfl ?_
  refine am_iconst (pc := 218) (v := (-1)) C dX11_init_218 rfl ?_
  refine am_putI (pc := 219) C dX11_init_219 f11_100 (show 0 < 322 by omega) sh_0 rfl rfl ?_
  have f47 : nw_fr (am_up (nk_X0_init (am_up (nk_X7_init (am_up (nk_X6_init (am_up (nk_X4l (am_up (nk_X2_init (am_up (nk_X9_init (am_up (nk_X10_init (nk_X1_init (nk_X3_init (am_up (nk_X10_init (nk_X1_init (nk_X3_init (am_up (nk_X10_init (am_up (nk_X10_init (nk_X1_init (nk_X3_init (am_up (nk_X8_init r 1 2) 0 0 (.ref 1)) 4 5) 17 18) 3 4 17 25) 0 1 (.ref 3)) 40 4 17 41) 0 2 (.ref 40)) 57 58) 70 71) 56 57 70 78) 0 3 (.ref 56)) 94 95) 107 108) 93 94 107 115) 0 4 (.ref 93))) 0 5 (.ref 130)) 131 1 70 132) 0 6 (.ref 131)) 12) 0 7 (.ref 132))) 0 8 (.ref 314)) 316 3 317) 0 9 (.ref 316)) 318 3 319) 0 10 (.ref 318)) (am_up (am_up (nh_X4l (nh_X10_init (nh_X1_init (nh_X10_init (nh_X1_init (nh_X10_init (nh_X10_init (nh_X1_init h 17 18) 3 4 17 25) 40 4 17 41) 70 71) 56 57 70 78) 107 108) 93 94 107 115) 12) 0 11 (nI 0)) 0 12 (-1)) (322) := f46.ph (by omega)
  exact am_nret T ok321 dX11_init_222 rfl (Nat.le_of_ble_eq_true rfl) (Nat.le_of_ble_eq_true rfl) ⟨rfl, rfl, f47⟩

end NEWK2
