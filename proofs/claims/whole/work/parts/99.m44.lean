/-! THE CLASS'S PUBLIC CALLS: trials -/
section M44
theorem cl_La_fq {h g : am_H} {w w' : rf_W} (E : rf_Es w w') (F : cl_fq h g) (A : cl_La h 17 w) : cl_La g 17 w' := cl_La_Es E (cl_La_eq (fun i a b => F i (by omega)) A)
theorem cl_w3 {x : Int32} (q1 : ¬ x < 0) (q6 : x ≤ nI 3) (e0 : ¬ x = nI 0) (e1 : ¬ x = nI 1) (e2 : ¬ x = nI 2) : x = nI 3 := by
  obtain ⟨j, hj, rfl⟩ := nI_of q1
  rw [nI_leI hj (by decide)] at q6
  rcases (show j = 0 ∨ j = 1 ∨ j = 2 ∨ j = 3 by omega) with rfl | rfl | rfl | rfl
  · exact absurd rfl e0
  · exact absurd rfl e1
  · exact absurd rfl e2
  · rfl
def cl_mn (w : rf_W) (d n : Nat) : Nat → Nat
  | 0 => 120
  | k + 1 => min (cl_mn w d n k) (rf_nat (rf_sps w d n (k + 1)))
def cl_mx (w : rf_W) (d n : Nat) : Nat → Nat
  | 0 => 0
  | k + 1 => max (cl_mx w d n k) (rf_nat (rf_sps w d n (k + 1)))
theorem rf_I_seed {w : rf_W} {v : Int32} (hI : rf_I w) : rf_I (upd w 10 v) := rf_I_num hI (fun a h1 h2 h3 h4 => rf_upd_ne h4)
theorem rf_I_hrs {w : rf_W} (hI : rf_I w) : ∀ n, rf_I (rf_hrs w n)
  | 0 => hI
  | n + 1 => (rf_I_hour (rf_I_hrs hI n)).1
theorem rf_S_hrs {w : rf_W} (hI : rf_I w) : ∀ n, rf_S (rf_hrs w n) = rf_S w
  | 0 => rfl
  | n + 1 => ((rf_I_hour (rf_I_hrs hI n)).2.S).trans (rf_S_hrs hI n)
theorem rf_bc_use {w : rf_W} {s : Nat} (hI : rf_I w) (hs : s < rf_S w) : rf_bc (rf_use w s) ≤ 12 := by
  have hIs := hI.2.1 s hs
  have hk : rf_kn w s < 13 := hIs.2.2.2.2.1.2
  have e : rf_bc (rf_use w s) = rf_cnt (fun m => am_bt (rf_bits (rf_li w s) (rf_kn w s)) m && am_bt (rf_use w s) m) 16 := by
    refine rf_cnt_congr 16 (fun m hm => ?_)
    show am_bt (rf_use w s) m = (am_bt (rf_bits (rf_li w s) (rf_kn w s)) m && am_bt (rf_use w s) m)
    rw [← rf_known_bits hIs]
    cases hb : am_bt (rf_use w s) m with
    | false => rw [Bool.and_false]
    | true => rw [rf_use_sub (known := rf_known w s) hI m (by omega) hb]; rfl
  rw [e, rf_cnt_places rfl hIs hI.1.1.2 (am_bt (rf_use w s)) (rf_kn w s) (Nat.le_refl _)]
  have := rf_cnt_le (fun k => am_bt (rf_use w s) (rf_li w s k)) (rf_kn w s)
  omega
theorem rf_au_n {w : rf_W} {sides : Int32} (hI : rf_I w) : ∀ n, n ≤ rf_S w → ∃ y, y ≤ 12 * n ∧ rf_au w sides n = nI y
  | 0, _ => ⟨0, Nat.le_refl _, rfl⟩
  | n + 1, h => by
    obtain ⟨y, hy, e⟩ := rf_au_n (sides := sides) hI n (by omega)
    have h1 := rf_bc_use hI (show n < rf_S w by omega)
    have h2 : rf_pc (rf_use w n) = nI (rf_bc (rf_use w n)) := rf_pc_bc (am_lo_mono (rf_usable_lo hI) (by have := hI.1.1.2; exact Nat.le_of_lt_succ this))
    rw [rf_au, e]
    split
    · rw [h2, nI_add]; exact ⟨_, by omega, rfl⟩
    · rw [nI_add]; exact ⟨_, by omega, rfl⟩
theorem cl_sps_n {w : rf_W} {d n k : Nat} (hV : rf_I w) : rf_sps w d n k = nI (rf_nat (rf_sps w d n k)) ∧ rf_nat (rf_sps w d n k) ≤ 120 := by
  have hS : rf_S w < 11 := hV.1.2.1.2
  have hSs : rf_S (upd w 10 (nI k)) = rf_S w := by rw [rf_S, rf_S, rf_upd_ne (by decide)]
  obtain ⟨y, hy, e⟩ := rf_au_n (sides := nI 1 <<< (nI d &&& 31)) (rf_I_hrs (rf_I_seed (v := nI k) hV) n) (rf_S w) (by rw [rf_S_hrs (rf_I_seed hV), hSs]; exact Nat.le_refl _)
  rw [rf_sps, e, rf_nat_nI (by omega)]
  exact ⟨rfl, by omega⟩
theorem cl_sps_le {w : rf_W} {d n k : Nat} (hV : rf_I w) : rf_nat (rf_sps w d n k) ≤ 120 := (cl_sps_n hV).2
theorem cl_sps {w : rf_W} {d : Int32} {dd n k m : Nat} (hV : rf_I w) (e : d = nI dd) (h2 : dd < 2) (hm : m = n) : rf_ui (rf_hrs (upd w 10 (nI k)) m) d (rf_S (rf_hrs (upd w 10 (nI k)) m)) = nI (rf_nat (rf_sps w dd n k)) := by
  subst e hm
  have hSs : rf_S (upd w 10 (nI k)) = rf_S w := by rw [rf_S, rf_S, rf_upd_ne (by decide)]
  have hV2 := rf_I_hrs (rf_I_seed (v := nI k) hV) m
  rw [rf_ui_one hV2 h2 _ (Nat.le_refl _), rf_S_hrs (rf_I_seed hV), hSs]
  exact (cl_sps_n hV).1
theorem cl_mn_le {w : rf_W} {d n : Nat} (_hV : rf_I w) : ∀ k, cl_mn w d n k ≤ 120
  | 0 => Nat.le_refl _
  | k + 1 => Nat.le_trans (Nat.min_le_left _ _) (cl_mn_le _hV k)
theorem cl_mx_le {w : rf_W} {d n : Nat} (hV : rf_I w) : ∀ k, cl_mx w d n k ≤ 120
  | 0 => Nat.zero_le _
  | k + 1 => Nat.max_le.mpr ⟨cl_mx_le hV k, cl_sps_le hV⟩
theorem cl_spn_k {w : rf_W} {d n : Nat} (hV : rf_I w) : ∀ k, rf_sp w d n false (k + 1) = nI (cl_mn w d n (k + 1))
  | 0 => by
    have h1 := cl_sps_le (d := d) (n := n) (k := 0 + 1) hV
    show (if rf_sp w d n false 0 < 0 then _ else _) = _
    rw [if_pos (show rf_sp w d n false 0 < 0 from (show (-1 : Int32) < 0 by decide)), (cl_sps_n hV).1, cl_mn]
    show nI _ = nI (min 120 _)
    rw [Nat.min_eq_right h1]
  | k + 1 => by
    have h1 := cl_sps_le (d := d) (n := n) (k := k + 1 + 1) hV
    have h2 := cl_mn_le (d := d) (n := n) hV (k + 1)
    rw [rf_sp, cl_spn_k hV k, if_neg (nI_pos (by omega)), (cl_sps_n (d := d) (n := n) (k := k + 1 + 1) hV).1]
    show rf_min _ _ = _
    rw [rf_min_N (by omega) (by omega)]
    rfl
theorem cl_spx_k {w : rf_W} {d n : Nat} (hV : rf_I w) : ∀ k, rf_sp w d n true (k + 1) = nI (cl_mx w d n (k + 1))
  | 0 => by
    show (if rf_sp w d n true 0 < 0 then _ else _) = _
    rw [if_pos (show rf_sp w d n true 0 < 0 from (show (-1 : Int32) < 0 by decide)), (cl_sps_n hV).1, cl_mx]
    show nI _ = nI (max 0 _)
    rw [Nat.max_eq_right (Nat.zero_le _)]
  | k + 1 => by
    have h1 := cl_sps_le (d := d) (n := n) (k := k + 1 + 1) hV
    have h2 := cl_mx_le (d := d) (n := n) hV (k + 1)
    rw [rf_sp, cl_spx_k hV k, if_neg (nI_pos (by omega)), (cl_sps_n (d := d) (n := n) (k := k + 1 + 1) hV).1]
    show rf_max _ _ = _
    rw [rf_max_N (by omega) (by omega)]
    rfl
theorem cl_spn {w : rf_W} {d n : Nat} (hV : rf_I w) : rf_sp w d n false 6 = nI (cl_mn w d n 6) := cl_spn_k hV 5
theorem cl_spx {w : rf_W} {d n : Nat} (hV : rf_I w) : rf_sp w d n true 6 = nI (cl_mx w d n 6) := cl_spx_k hV 5
end M44

set_option maxHeartbeats 400000 in
set_option maxRecDepth 100000 in
theorem c_X11_trial {ad : Nat → Nat} {r : am_R} (hR : am_rs r) {h : am_H} (nn : Int32) (what : Int32) (w : rf_W) (hV : rf_I w) (hLo : cl_Lo (h) 4 w) (hSc : cl_Sc (h) 25 w) (hB : rf_n (w 7) 1073000000) (hLw : rf_Lw w) (hLk : rf_Lk w) (hA : cl_La (h) 17 w)  : am_XM mX11_trial 7 2 12 [.ref 0, .int nn, .int what] (am_VV ad) r h (ex_ret (rf_c_trial w nn what) (rf_a_trial w nn what) (fun r9 h9 => r9 = r ∧ cl_k h h9)) (ex_thr ["java/lang/IllegalArgumentException", "java/util/NoSuchElementException"] (rf_c_trial w nn what) (fun r9 h9 => r9 = r ∧ cl_k h h9)) := by
  refine am_XM.of (by decide +kernel) (Nat.le_of_ble_eq_true rfl) (by decide) (fun X C T TX => ?_)
  show am_G X (am_VV ad) (0, 0) 0 [(0, .ref 0), (1, .int nn), (2, .int what)] [] r h
  have hM9 : rf_M w < 17 := hV.1.1.2
  have hS9 : rf_S w < 11 := hV.1.2.1.2
  have hO9 : rf_O w < 11 := hV.1.2.2.2
  refine am_iload_n (pc := 0) C dX11_trial_0 rfl ?_
  refine am_iconstN (pc := 1) (k := 0) C dX11_trial_1 ?_
  refine am_bipush (pc := 2) (v := nI 60) C dX11_trial_2 (by decide) ?_
  refine am_callSXc (Y := mX11_needNumber) (pc := 4) (st := []) (As := [.int nn, .int (nI 0), .int (nI 60)]) (cz := (1, 6)) C dX11_trial_4 k11_234 v_X11_needNumber rfl rfl (by decide) (Nat.le_of_ble_eq_true rfl) (Nat.le_of_ble_eq_true rfl) (Nat.le_of_ble_eq_true rfl) (c_X11_needNumber hR nn 0 60) rfl (fun E9 r9 h9 hx9 => ?_) (fun v9 r9 h9 hq9 => ?_)
  · obtain ⟨hx9, rfl, rfl⟩ := hx9
    obtain ⟨f4_0, rfl⟩ := hx9
    · exact (TX "java/lang/IllegalArgumentException" r h ⟨0, (show rf_c_trial w nn what = 1 from by simp only [rf_c_trial, rf_cb, f4_0, Bool.not_true, Bool.not_false, cond_true, cond_false]), rfl, ⟨rfl, (fun _ _ => rfl)⟩⟩ (1, 6) 4 [(0, .ref 0), (1, .int nn), (2, .int what)] (Nat.le_of_ble_eq_true rfl) (Nat.le_of_ble_eq_true rfl)).1
  obtain ⟨f4_0, rfl, rfl, rfl⟩ := hq9
  show am_G X (am_VV ad) (1, 6) 7 [(0, .ref 0), (1, .int nn), (2, .int what)] [] r h
  obtain ⟨nA, mA⟩ := rf_in_n0 (b := 60) (by decide) f4_0
  refine am_lsv (ls' := [(0, .ref 0), (1, .int (nI (rf_nat nn))), (2, .int what)]) (congrArg (fun z9 : Int32 => ([(0, .ref 0), (1, Value.int z9), (2, .int what)] : List (Nat × Value))) (show nn = (nI (rf_nat nn)) from nA)) ?_
  refine am_iload_n (pc := 7) C dX11_trial_7 rfl ?_
  refine am_if_lt (pc := 8) (tgt := 16) C dX11_trial_8 (by decide) (fun q8 => ?_) (fun q8 => ?_)
  · skip
    exact (TX "java/util/NoSuchElementException" r h ⟨1, (show rf_c_trial w nn what = 2 from by simp only [rf_c_trial, rf_cb, f4_0, (rf_in_lt (l := nI 0) (h := nI 3) q8), Bool.not_true, Bool.not_false, cond_true, cond_false]), rfl, ⟨rfl, (fun _ _ => rfl)⟩⟩ (1, 6) 16 [(0, .ref 0), (1, .int (nI (rf_nat nn))), (2, .int what)] (Nat.le_of_ble_eq_true rfl) (Nat.le_of_ble_eq_true rfl)).2 (Nat.le_of_ble_eq_true rfl) (Nat.le_of_ble_eq_true rfl) ⟨rfl, 189, 420, 193, 44, 23, "a trial has no such thing", ex_ok_NS, ⟨List.mem_of_getElem? (i := 45) rfl, by decide⟩, dX11_trial_16, dX11_trial_19, Or.inr ⟨dX11_trial_20, rfl⟩, dX11_trial_23, dX11_trial_26⟩ [] (by decide)
  · skip
    refine am_iload_n (pc := 11) C dX11_trial_11 rfl ?_
    refine am_iconstN (pc := 12) (k := 3) C dX11_trial_12 ?_
    refine am_icmp_le (pc := 13) (tgt := 27) C dX11_trial_13 (by decide) (fun q13 => ?_) (fun q13 => ?_)
    · skip
      refine am_aload_n (pc := 27) C dX11_trial_27 rfl ?_
      refine am_getR (pc := 28) (j := 3) C dX11_trial_28 f11_27 bn_0 sh_0 (rf_0_1 hR) ?_
      refine am_callVi (Y := mX10_obeyedOrders) (pc := 31) (st := []) (As := []) (x := (rf_obeyed w 12)) (h2 := h) C dX11_trial_31 k11_224 v_X10_obeyedOrders rfl rfl bn_3 sh_3 ⟨by decide, rfl⟩ (by decide) (Nat.le_of_ble_eq_true rfl) (Nat.le_of_ble_eq_true rfl) (Nat.le_of_ble_eq_true rfl) (c_X10_obeyedOrders hR w hV hLo hSc) ?_
      refine am_istore_n (pc := 34) (ls' := [(0, .ref 0), (1, .int (nI (rf_nat nn))), (2, .int what), (3, .int (rf_obeyed w 12))]) C dX11_trial_34 (by decide) rfl ?_
      refine am_iconst (pc := 35) (v := -1) C dX11_trial_35 rfl ?_
      refine am_istore (pc := 36) (ls' := [(0, .ref 0), (1, .int (nI (rf_nat nn))), (2, .int what), (3, .int (rf_obeyed w 12)), (4, .int (-1))]) C dX11_trial_36 (by decide) rfl ?_
      refine am_aload_n (pc := 38) C dX11_trial_38 rfl ?_
      refine am_getR (pc := 39) (j := 40) C dX11_trial_39 f11_39 bn_0 sh_0 (rf_0_2 hR) ?_
      refine am_getR (pc := 42) (j := 41) C dX11_trial_42 f11_177 bn_40 sh_40 (rf_40_2 hR) ?_
      refine am_aload_n (pc := 45) C dX11_trial_45 rfl ?_
      refine am_getR (pc := 46) (j := 3) C dX11_trial_46 f11_27 bn_0 sh_0 (rf_0_1 hR) ?_
      refine am_getR (pc := 49) (j := 25) C dX11_trial_49 f11_177 bn_3 sh_3 (rf_3_2 hR) ?_
      refine am_callVvr (Y := mX5_copyFrom) (pc := 52) (st := []) (As := [.ref 25]) (PP := fun c9 => cl_Sc c9 41 w ∧ cl_fr (h) c9 41 15) C dX11_trial_52 k11_422 v_X5_copyFrom rfl rfl bn_41 sh_41 ⟨by decide, rfl⟩ (by decide) (Nat.le_of_ble_eq_true rfl) (Nat.le_of_ble_eq_true rfl) (Nat.le_of_ble_eq_true rfl) (c_X5_copyFrom hR w (show rf_I w from hV) (show cl_Sc (h) 25 w from hSc)) (fun g52_0 hg52_0 => ?_)
      obtain ⟨S52, F52⟩ := hg52_0
      refine am_iconstN (pc := 55) (k := 1) C dX11_trial_55 ?_
      refine am_istore (pc := 56) (ls' := [(0, .ref 0), (1, .int (nI (rf_nat nn))), (2, .int what), (3, .int (rf_obeyed w 12)), (4, .int (-1)), (5, .int (nI 1))]) C dX11_trial_56 (by decide) rfl ?_
      have L58 : ∀ (j58 : Nat) (gk : am_H) (k : Nat), (hkj : k + j58 = rf_nat nn) → (hSk : cl_Sc gk 41 (rf_hrs w k)) → (hFk : cl_fq h gk) → am_G X (am_VV ad) (1, 6) 58 [(0, .ref 0), (1, .int (nI (rf_nat nn))), (2, .int what), (3, .int (rf_obeyed w 12)), (4, .int (am_oi (rf_tf w (rf_obeyed w 12) k))), (5, .int (nI (k + 1)))] [] r gk := by
        intro j58
        induction j58 with
        | zero =>
          intro gk k hkj hSk hFk
          obtain ⟨Vk, Pk, Lwk⟩ := rf_hrs_ok hV hLw k
          obtain ⟨Ek, Bk⟩ := rf_hrs_es hV hB k (by omega)
          have Lk := cl_Lo_Es hV Ek (cl_Lo_eq (fun i a b => hFk i (by omega)) hLo)
          have Ak := cl_La_fq Ek hFk hA
          have htf := rf_tf_le (w := w) (now := (rf_obeyed w 12)) k
          refine am_iload (pc := 58) C dX11_trial_58 rfl ?_
          refine am_iload_n (pc := 60) C dX11_trial_60 rfl ?_
          refine am_icmp_gtN (pc := 61) (tgt := 101) C dX11_trial_61 (by decide) (by omega) (by omega) (fun q61 => ?_) (fun q61 => ?_)
          · skip
            refine am_iload_n (pc := 101) C dX11_trial_101 rfl ?_
            by_cases e102_0 : what = nI 0
            · refine am_tableIn (pc := 102) (tgt := 128) C dX11_trial_102 (by rw [e102_0]; decide) (by rw [e102_0]; decide) (by rw [e102_0]; rfl) (by decide) ?_
              refine am_aload_n (pc := 128) C dX11_trial_128 rfl ?_
              refine am_getR (pc := 129) (j := 40) C dX11_trial_129 f11_39 bn_0 sh_0 (rf_0_2 hR) ?_
              refine am_callVi (Y := mX10_knownInAll) (pc := 132) (st := []) (As := []) (x := (nI (rf_ak (rf_hrs w k) (rf_S (rf_hrs w k))))) (h2 := gk) C dX11_trial_132 k11_424 v_X10_knownInAll rfl rfl bn_40 sh_40 ⟨by decide, rfl⟩ (by decide) (Nat.le_of_ble_eq_true rfl) (Nat.le_of_ble_eq_true rfl) (Nat.le_of_ble_eq_true rfl) (c_X10_knownInAll_p hR (rf_hrs w k) (show rf_I (rf_hrs w k) from Vk) (show cl_Lo (gk) 4 (rf_hrs w k) from Lk) (show cl_Sc (gk) 41 (rf_hrs w k) from hSk)) ?_
              have K9 : rf_c_trial w nn what = 0 := (show rf_c_trial w nn what = 0 from by simp only [rf_c_trial, rf_cb, f4_0, (rf_in_ok (l := nI 0) (h := nI 3) q8 (Int32.not_lt.mpr q13)), Bool.not_true, Bool.not_false, cond_true, cond_false])
              have A9 : rf_a_trial w nn what = (nI (rf_ak (rf_hrs w k) (rf_S (rf_hrs w k)))) := (by rw [rf_a_trial, e102_0, rf_nat_nI (by decide), show rf_nat nn = k by omega]; rfl)
              exact am_iret T dX11_trial_135 rfl rfl (Nat.le_of_ble_eq_true rfl) (Nat.le_of_ble_eq_true rfl) ⟨K9, by rw [A9], ⟨rfl, (fun i h9 => hFk i (by omega))⟩⟩
            by_cases e102_1 : what = nI 1
            · refine am_tableIn (pc := 102) (tgt := 136) C dX11_trial_102 (by rw [e102_1]; decide) (by rw [e102_1]; decide) (by rw [e102_1]; rfl) (by decide) ?_
              refine am_aload_n (pc := 136) C dX11_trial_136 rfl ?_
              refine am_getR (pc := 137) (j := 40) C dX11_trial_137 f11_39 bn_0 sh_0 (rf_0_2 hR) ?_
              refine am_iconstN (pc := 140) (k := 0) C dX11_trial_140 ?_
              refine am_callVi (Y := mX10_usableInAll) (pc := 141) (st := []) (As := [.int (nI 0)]) (x := (rf_ui (rf_hrs w k) (nI 0) (rf_S (rf_hrs w k)))) (h2 := gk) C dX11_trial_141 k11_427 v_X10_usableInAll rfl rfl bn_40 sh_40 ⟨by decide, rfl⟩ (by decide) (Nat.le_of_ble_eq_true rfl) (Nat.le_of_ble_eq_true rfl) (Nat.le_of_ble_eq_true rfl) (c_X10_usableInAll_p hR (nI 0) (rf_hrs w k) (show rf_I (rf_hrs w k) from Vk) (show cl_Lo (gk) 4 (rf_hrs w k) from Lk) (show cl_Sc (gk) 41 (rf_hrs w k) from hSk)) ?_
              refine am_aload_n (pc := 144) C dX11_trial_144 rfl ?_
              refine am_getR (pc := 145) (j := 40) C dX11_trial_145 f11_39 bn_0 sh_0 (rf_0_2 hR) ?_
              refine am_iconstN (pc := 148) (k := 1) C dX11_trial_148 ?_
              refine am_callVi (Y := mX10_usableInAll) (pc := 149) (st := [.int (rf_ui (rf_hrs w k) (nI 0) (rf_S (rf_hrs w k)))]) (As := [.int (nI 1)]) (x := (rf_ui (rf_hrs w k) (nI 1) (rf_S (rf_hrs w k)))) (h2 := gk) C dX11_trial_149 k11_427 v_X10_usableInAll rfl rfl bn_40 sh_40 ⟨by decide, rfl⟩ (by decide) (Nat.le_of_ble_eq_true rfl) (Nat.le_of_ble_eq_true rfl) (Nat.le_of_ble_eq_true rfl) (c_X10_usableInAll_p hR (nI 1) (rf_hrs w k) (show rf_I (rf_hrs w k) from Vk) (show cl_Lo (gk) 4 (rf_hrs w k) from Lk) (show cl_Sc (gk) 41 (rf_hrs w k) from hSk)) ?_
              refine am_iadd (pc := 152) C dX11_trial_152 ?_
              have K9 : rf_c_trial w nn what = 0 := (show rf_c_trial w nn what = 0 from by simp only [rf_c_trial, rf_cb, f4_0, (rf_in_ok (l := nI 0) (h := nI 3) q8 (Int32.not_lt.mpr q13)), Bool.not_true, Bool.not_false, cond_true, cond_false])
              have A9 : rf_a_trial w nn what = ((rf_ui (rf_hrs w k) (nI 0) (rf_S (rf_hrs w k))) + (rf_ui (rf_hrs w k) (nI 1) (rf_S (rf_hrs w k)))) := (by rw [rf_a_trial, e102_1, rf_nat_nI (by decide), show rf_nat nn = k by omega]; exact (rf_ui_two Vk _ (Nat.le_refl _)).symm)
              exact am_iret T dX11_trial_153 rfl rfl (Nat.le_of_ble_eq_true rfl) (Nat.le_of_ble_eq_true rfl) ⟨K9, by rw [A9], ⟨rfl, (fun i h9 => hFk i (by omega))⟩⟩
            by_cases e102_2 : what = nI 2
            · refine am_tableIn (pc := 102) (tgt := 154) C dX11_trial_102 (by rw [e102_2]; decide) (by rw [e102_2]; decide) (by rw [e102_2]; rfl) (by decide) ?_
              refine am_aload_n (pc := 154) C dX11_trial_154 rfl ?_
              refine am_getR (pc := 155) (j := 40) C dX11_trial_155 f11_39 bn_0 sh_0 (rf_0_2 hR) ?_
              refine am_callVi (Y := mX10_obeyedOrders) (pc := 158) (st := []) (As := []) (x := (rf_obeyed (rf_hrs w k) 12)) (h2 := gk) C dX11_trial_158 k11_224 v_X10_obeyedOrders rfl rfl bn_40 sh_40 ⟨by decide, rfl⟩ (by decide) (Nat.le_of_ble_eq_true rfl) (Nat.le_of_ble_eq_true rfl) (Nat.le_of_ble_eq_true rfl) (c_X10_obeyedOrders_p hR (rf_hrs w k) (show rf_I (rf_hrs w k) from Vk) (show cl_Lo (gk) 4 (rf_hrs w k) from Lk) (show cl_Sc (gk) 41 (rf_hrs w k) from hSk)) ?_
              have K9 : rf_c_trial w nn what = 0 := (show rf_c_trial w nn what = 0 from by simp only [rf_c_trial, rf_cb, f4_0, (rf_in_ok (l := nI 0) (h := nI 3) q8 (Int32.not_lt.mpr q13)), Bool.not_true, Bool.not_false, cond_true, cond_false])
              have A9 : rf_a_trial w nn what = (rf_obeyed (rf_hrs w k) 12) := (by rw [rf_a_trial, e102_2, rf_nat_nI (by decide), show rf_nat nn = k by omega]; rfl)
              exact am_iret T dX11_trial_161 rfl rfl (Nat.le_of_ble_eq_true rfl) (Nat.le_of_ble_eq_true rfl) ⟨K9, by rw [A9], ⟨rfl, (fun i h9 => hFk i (by omega))⟩⟩
            refine am_tableOut (pc := 102) (tgt := 162) C dX11_trial_102 (am_tabD 0 2 (by decide) (fun k h1 h2 => by rcases (show k = 0 ∨ k = 1 ∨ k = 2 by omega) with rfl | rfl | rfl <;> assumption)) (by decide) ?_
            refine am_iload (pc := 162) C dX11_trial_162 rfl ?_
            have K9 : rf_c_trial w nn what = 0 := (show rf_c_trial w nn what = 0 from by simp only [rf_c_trial, rf_cb, f4_0, (rf_in_ok (l := nI 0) (h := nI 3) q8 (Int32.not_lt.mpr q13)), Bool.not_true, Bool.not_false, cond_true, cond_false])
            have A9 : rf_a_trial w nn what = (am_oi (rf_tf w (rf_obeyed w 12) k)) := (by rw [rf_a_trial, cl_w3 q8 q13 e102_0 e102_1 e102_2, rf_nat_nI (by decide), show rf_nat nn = k by omega]; rfl)
            exact am_iret T dX11_trial_164 rfl rfl (Nat.le_of_ble_eq_true rfl) (Nat.le_of_ble_eq_true rfl) ⟨K9, by rw [A9], ⟨rfl, (fun i h9 => hFk i (by omega))⟩⟩
          · skip
            exact absurd q61 (by omega)
        | succ j58 ih58 =>
          intro gk k hkj hSk hFk
          obtain ⟨Vk, Pk, Lwk⟩ := rf_hrs_ok hV hLw k
          obtain ⟨Ek, Bk⟩ := rf_hrs_es hV hB k (by omega)
          have Lk := cl_Lo_Es hV Ek (cl_Lo_eq (fun i a b => hFk i (by omega)) hLo)
          have Ak := cl_La_fq Ek hFk hA
          have htf := rf_tf_le (w := w) (now := (rf_obeyed w 12)) k
          refine am_iload (pc := 58) C dX11_trial_58 rfl ?_
          refine am_iload_n (pc := 60) C dX11_trial_60 rfl ?_
          refine am_icmp_gtN (pc := 61) (tgt := 101) C dX11_trial_61 (by decide) (by omega) (by omega) (fun q61 => ?_) (fun q61 => ?_)
          · skip
            exact absurd q61 (by omega)
          · skip
            refine am_aload_n (pc := 64) C dX11_trial_64 rfl ?_
            refine am_getR (pc := 65) (j := 40) C dX11_trial_65 f11_39 bn_0 sh_0 (rf_0_2 hR) ?_
            refine am_callVvr (Y := mX10_passHour) (pc := 68) (st := []) (As := []) (PP := fun c9 => cl_Sc c9 41 (rf_hour (rf_hrs w k)) ∧ cl_fq (gk) c9) C dX11_trial_68 k11_278 v_X10_passHour rfl rfl bn_40 sh_40 ⟨by decide, rfl⟩ (by decide) (Nat.le_of_ble_eq_true rfl) (Nat.le_of_ble_eq_true rfl) (Nat.le_of_ble_eq_true rfl) (c_X10_passHour_p hR (rf_hrs w k) (show rf_I (rf_hrs w k) from Vk) (show cl_Lo (gk) 4 (rf_hrs w k) from Lk) (show cl_Sc (gk) 41 (rf_hrs w k) from hSk) (show rf_n ((rf_hrs w k) 7) 1073741824 from ⟨Bk.1, by have h9 := Bk.2; omega⟩) (show rf_Lw (rf_hrs w k) from Lwk) (show rf_Lk (rf_hrs w k) from (rf_Lk_Eq Pk hLk)) (show cl_La (gk) 17 (rf_hrs w k) from Ak)) (fun g68_2 hg68_2 => ?_)
            obtain ⟨S68, F68⟩ := hg68_2
            have hFm : cl_fq h g68_2 := fun i h9 => (F68 i h9).trans (hFk i h9)
            obtain ⟨Vm, Pm, Lwm⟩ := rf_hrs_ok hV hLw (k + 1)
            obtain ⟨Em, Bm⟩ := rf_hrs_es hV hB (k + 1) (by omega)
            refine am_iload (pc := 71) C dX11_trial_71 rfl ?_
            refine am_iconst (pc := 73) (v := -1) C dX11_trial_73 rfl ?_
            refine am_icmp_neO (pc := 74) (tgt := 95) C dX11_trial_74 (by decide) (by omega) (fun q74 => ?_) (fun q74 => ?_)
            · skip
              refine am_iincN (pc := 95) (ls' := [(0, .ref 0), (1, .int (nI (rf_nat nn))), (2, .int what), (3, .int (rf_obeyed w 12)), (4, .int (am_oi (rf_tf w (rf_obeyed w 12) k))), (5, .int (nI (k + 1 + 1)))]) C dX11_trial_95 rfl (am_up1 _) (by decide) rfl ?_
              refine am_goto (pc := 98) (tgt := 58) C dX11_trial_98 (by decide) ?_
              refine am_lsv (ls' := [(0, .ref 0), (1, .int (nI (rf_nat nn))), (2, .int what), (3, .int (rf_obeyed w 12)), (4, .int (am_oi (rf_tf w (rf_obeyed w 12) (k + 1)))), (5, .int (nI (k + 1 + 1)))]) (congrArg (fun z9 : Int32 => ([(0, .ref 0), (1, .int (nI (rf_nat nn))), (2, .int what), (3, .int (rf_obeyed w 12)), (4, Value.int z9), (5, .int (nI (k + 1 + 1)))] : List (Nat × Value))) (show (am_oi (rf_tf w (rf_obeyed w 12) k)) = (am_oi (rf_tf w (rf_obeyed w 12) (k + 1))) from congrArg am_oi (by rw [rf_tf, if_neg (fun z => by omega)]))) ?_
              refine am_lsv (ls' := [(0, .ref 0), (1, .int (nI (rf_nat nn))), (2, .int what), (3, .int (rf_obeyed w 12)), (4, .int (am_oi (rf_tf w (rf_obeyed w 12) (k + 1)))), (5, .int (nI ((k + 1) + 1)))]) (congrArg (fun z9 : Int32 => ([(0, .ref 0), (1, .int (nI (rf_nat nn))), (2, .int what), (3, .int (rf_obeyed w 12)), (4, .int (am_oi (rf_tf w (rf_obeyed w 12) (k + 1)))), (5, Value.int z9)] : List (Nat × Value))) (show (nI (k + 1 + 1)) = (nI ((k + 1) + 1)) from rfl)) ?_
              exact ih58 g68_2 (k + 1) (by omega) S68 hFm
            · skip
              refine am_iload_n (pc := 77) C dX11_trial_77 rfl ?_
              refine am_aload_n (pc := 78) C dX11_trial_78 rfl ?_
              refine am_getR (pc := 79) (j := 40) C dX11_trial_79 f11_39 bn_0 sh_0 (rf_0_2 hR) ?_
              refine am_callVi (Y := mX10_obeyedOrders) (pc := 82) (st := [.int (rf_obeyed w 12)]) (As := []) (x := (rf_obeyed (rf_hrs w (k + 1)) 12)) (h2 := g68_2) C dX11_trial_82 k11_224 v_X10_obeyedOrders rfl rfl bn_40 sh_40 ⟨by decide, rfl⟩ (by decide) (Nat.le_of_ble_eq_true rfl) (Nat.le_of_ble_eq_true rfl) (Nat.le_of_ble_eq_true rfl) (c_X10_obeyedOrders_p hR (rf_hrs w (k + 1)) (show rf_I (rf_hrs w (k + 1)) from Vm) (show cl_Lo (g68_2) 4 (rf_hrs w (k + 1)) from (cl_Lo_Es hV Em (cl_Lo_eq (fun i a b => hFm i (by omega)) hLo))) (show cl_Sc (g68_2) 41 (rf_hrs w (k + 1)) from S68)) ?_
              refine am_iconst (pc := 85) (v := -1) C dX11_trial_85 rfl ?_
              refine am_ixor (pc := 86) C dX11_trial_86 ?_
              refine am_iand (pc := 87) C dX11_trial_87 ?_
              refine am_if_eq (pc := 88) (tgt := 95) C dX11_trial_88 (by decide) (fun q88 => ?_) (fun q88 => ?_)
              · skip
                refine am_iincN (pc := 95) (ls' := [(0, .ref 0), (1, .int (nI (rf_nat nn))), (2, .int what), (3, .int (rf_obeyed w 12)), (4, .int (am_oi (rf_tf w (rf_obeyed w 12) k))), (5, .int (nI (k + 1 + 1)))]) C dX11_trial_95 rfl (am_up1 _) (by decide) rfl ?_
                refine am_goto (pc := 98) (tgt := 58) C dX11_trial_98 (by decide) ?_
                refine am_lsv (ls' := [(0, .ref 0), (1, .int (nI (rf_nat nn))), (2, .int what), (3, .int (rf_obeyed w 12)), (4, .int (am_oi (rf_tf w (rf_obeyed w 12) (k + 1)))), (5, .int (nI (k + 1 + 1)))]) (congrArg (fun z9 : Int32 => ([(0, .ref 0), (1, .int (nI (rf_nat nn))), (2, .int what), (3, .int (rf_obeyed w 12)), (4, Value.int z9), (5, .int (nI (k + 1 + 1)))] : List (Nat × Value))) (show (am_oi (rf_tf w (rf_obeyed w 12) k)) = (am_oi (rf_tf w (rf_obeyed w 12) (k + 1))) from congrArg am_oi (by rw [rf_tf, if_neg (fun z => z.2 q88)]))) ?_
                refine am_lsv (ls' := [(0, .ref 0), (1, .int (nI (rf_nat nn))), (2, .int what), (3, .int (rf_obeyed w 12)), (4, .int (am_oi (rf_tf w (rf_obeyed w 12) (k + 1)))), (5, .int (nI ((k + 1) + 1)))]) (congrArg (fun z9 : Int32 => ([(0, .ref 0), (1, .int (nI (rf_nat nn))), (2, .int what), (3, .int (rf_obeyed w 12)), (4, .int (am_oi (rf_tf w (rf_obeyed w 12) (k + 1)))), (5, Value.int z9)] : List (Nat × Value))) (show (nI (k + 1 + 1)) = (nI ((k + 1) + 1)) from rfl)) ?_
                exact ih58 g68_2 (k + 1) (by omega) S68 hFm
              · skip
                refine am_iload (pc := 91) C dX11_trial_91 rfl ?_
                refine am_istore (pc := 93) (ls' := [(0, .ref 0), (1, .int (nI (rf_nat nn))), (2, .int what), (3, .int (rf_obeyed w 12)), (4, .int (nI (k + 1))), (5, .int (nI (k + 1)))]) C dX11_trial_93 (by decide) rfl ?_
                refine am_iincN (pc := 95) (ls' := [(0, .ref 0), (1, .int (nI (rf_nat nn))), (2, .int what), (3, .int (rf_obeyed w 12)), (4, .int (nI (k + 1))), (5, .int (nI (k + 1 + 1)))]) C dX11_trial_95 rfl (am_up1 _) (by decide) rfl ?_
                refine am_goto (pc := 98) (tgt := 58) C dX11_trial_98 (by decide) ?_
                refine am_lsv (ls' := [(0, .ref 0), (1, .int (nI (rf_nat nn))), (2, .int what), (3, .int (rf_obeyed w 12)), (4, .int (am_oi (rf_tf w (rf_obeyed w 12) (k + 1)))), (5, .int (nI (k + 1 + 1)))]) (congrArg (fun z9 : Int32 => ([(0, .ref 0), (1, .int (nI (rf_nat nn))), (2, .int what), (3, .int (rf_obeyed w 12)), (4, Value.int z9), (5, .int (nI (k + 1 + 1)))] : List (Nat × Value))) (show (nI (k + 1)) = (am_oi (rf_tf w (rf_obeyed w 12) (k + 1))) from ((am_oi_s _).symm.trans (congrArg am_oi (by rw [rf_tf, if_pos ⟨q74, q88⟩]))))) ?_
                refine am_lsv (ls' := [(0, .ref 0), (1, .int (nI (rf_nat nn))), (2, .int what), (3, .int (rf_obeyed w 12)), (4, .int (am_oi (rf_tf w (rf_obeyed w 12) (k + 1)))), (5, .int (nI ((k + 1) + 1)))]) (congrArg (fun z9 : Int32 => ([(0, .ref 0), (1, .int (nI (rf_nat nn))), (2, .int what), (3, .int (rf_obeyed w 12)), (4, .int (am_oi (rf_tf w (rf_obeyed w 12) (k + 1)))), (5, Value.int z9)] : List (Nat × Value))) (show (nI (k + 1 + 1)) = (nI ((k + 1) + 1)) from rfl)) ?_
                exact ih58 g68_2 (k + 1) (by omega) S68 hFm
      refine am_lsv (ls' := [(0, .ref 0), (1, .int (nI (rf_nat nn))), (2, .int what), (3, .int (rf_obeyed w 12)), (4, .int (am_oi (rf_tf w (rf_obeyed w 12) 0))), (5, .int (nI 1))]) (congrArg (fun z9 : Int32 => ([(0, .ref 0), (1, .int (nI (rf_nat nn))), (2, .int what), (3, .int (rf_obeyed w 12)), (4, Value.int z9), (5, .int (nI 1))] : List (Nat × Value))) (show (-1) = (am_oi (rf_tf w (rf_obeyed w 12) 0)) from (by first | exact am_oi_0.symm | rfl))) ?_
      refine am_lsv (ls' := [(0, .ref 0), (1, .int (nI (rf_nat nn))), (2, .int what), (3, .int (rf_obeyed w 12)), (4, .int (am_oi (rf_tf w (rf_obeyed w 12) 0))), (5, .int (nI (0 + 1)))]) (congrArg (fun z9 : Int32 => ([(0, .ref 0), (1, .int (nI (rf_nat nn))), (2, .int what), (3, .int (rf_obeyed w 12)), (4, .int (am_oi (rf_tf w (rf_obeyed w 12) 0))), (5, Value.int z9)] : List (Nat × Value))) (show (nI 1) = (nI (0 + 1)) from (by first | exact am_oi_0.symm | rfl))) ?_
      exact L58 (rf_nat nn) g52_0 0 (by omega) S52 (fun i h9 => F52 i (by omega))
    · skip
      exact (TX "java/util/NoSuchElementException" r h ⟨1, (show rf_c_trial w nn what = 2 from by simp only [rf_c_trial, rf_cb, f4_0, (rf_in_gt (l := nI 0) (h := nI 3) (Int32.not_le.mp q13)), Bool.not_true, Bool.not_false, cond_true, cond_false]), rfl, ⟨rfl, (fun _ _ => rfl)⟩⟩ (1, 6) 16 [(0, .ref 0), (1, .int (nI (rf_nat nn))), (2, .int what)] (Nat.le_of_ble_eq_true rfl) (Nat.le_of_ble_eq_true rfl)).2 (Nat.le_of_ble_eq_true rfl) (Nat.le_of_ble_eq_true rfl) ⟨rfl, 189, 420, 193, 44, 23, "a trial has no such thing", ex_ok_NS, ⟨List.mem_of_getElem? (i := 45) rfl, by decide⟩, dX11_trial_16, dX11_trial_19, Or.inr ⟨dX11_trial_20, rfl⟩, dX11_trial_23, dX11_trial_26⟩ [] (by decide)

set_option maxHeartbeats 400000 in
set_option maxRecDepth 100000 in
theorem c_X11_span {ad : Nat → Nat} {r : am_R} (hR : am_rs r) {h : am_H} (d : Int32) (nn : Int32) (most : Bool) (w : rf_W) (hV : rf_I w) (hLo : cl_Lo (h) 4 w) (hSc : cl_Sc (h) 25 w) (hB : rf_n (w 7) 1073000000) (hLw : rf_Lw w) (hLk : rf_Lk w) (hA : cl_La (h) 17 w)  : am_XM mX11_span 7 2 12 [.ref 0, .int d, .int nn, .int (am_b most)] (am_VV ad) r h (ex_ret (rf_c_span w d nn most) (rf_a_span w d nn most) (fun r9 h9 => r9 = r ∧ cl_k h h9)) (ex_thr ["java/lang/IndexOutOfBoundsException", "java/lang/IllegalArgumentException"] (rf_c_span w d nn most) (fun r9 h9 => r9 = r ∧ cl_k h h9)) := by
  refine am_XM.of (by decide +kernel) (Nat.le_of_ble_eq_true rfl) (by decide) (fun X C T TX => ?_)
  show am_G X (am_VV ad) (0, 0) 0 [(0, .ref 0), (1, .int d), (2, .int nn), (3, .int (am_b most))] [] r h
  have hM9 : rf_M w < 17 := hV.1.1.2
  have hS9 : rf_S w < 11 := hV.1.2.1.2
  have hO9 : rf_O w < 11 := hV.1.2.2.2
  refine am_iload_n (pc := 0) C dX11_span_0 rfl ?_
  refine am_callSXc (Y := mX11_needSide) (pc := 1) (st := []) (As := [.int d]) (cz := (1, 6)) C dX11_span_1 k11_339 v_X11_needSide rfl rfl (by decide) (Nat.le_of_ble_eq_true rfl) (Nat.le_of_ble_eq_true rfl) (Nat.le_of_ble_eq_true rfl) (c_X11_needSide hR d) rfl (fun E9 r9 h9 hx9 => ?_) (fun v9 r9 h9 hq9 => ?_)
  · obtain ⟨hx9, rfl, rfl⟩ := hx9
    obtain ⟨f1_0, rfl⟩ := hx9
    · exact (TX "java/lang/IndexOutOfBoundsException" r h ⟨0, (show rf_c_span w d nn most = 1 from by simp only [rf_c_span, rf_cb, f1_0, Bool.not_true, Bool.not_false, cond_true, cond_false]), rfl, ⟨rfl, (fun _ _ => rfl)⟩⟩ (1, 6) 1 [(0, .ref 0), (1, .int d), (2, .int nn), (3, .int (am_b most))] (Nat.le_of_ble_eq_true rfl) (Nat.le_of_ble_eq_true rfl)).1
  obtain ⟨f1_0, rfl, rfl, rfl⟩ := hq9
  show am_G X (am_VV ad) (1, 6) 4 [(0, .ref 0), (1, .int d), (2, .int nn), (3, .int (am_b most))] [] r h
  obtain ⟨nA, mA⟩ := rf_in_n0 (b := 1) (by decide) f1_0
  refine am_iload_n (pc := 4) C dX11_span_4 rfl ?_
  refine am_iconstN (pc := 5) (k := 0) C dX11_span_5 ?_
  refine am_bipush (pc := 6) (v := nI 24) C dX11_span_6 (by decide) ?_
  refine am_callSXc (Y := mX11_needNumber) (pc := 8) (st := []) (As := [.int nn, .int (nI 0), .int (nI 24)]) (cz := (2, 12)) C dX11_span_8 k11_234 v_X11_needNumber rfl rfl (by decide) (Nat.le_of_ble_eq_true rfl) (Nat.le_of_ble_eq_true rfl) (Nat.le_of_ble_eq_true rfl) (c_X11_needNumber hR nn 0 24) rfl (fun E9 r9 h9 hx9 => ?_) (fun v9 r9 h9 hq9 => ?_)
  · obtain ⟨hx9, rfl, rfl⟩ := hx9
    obtain ⟨f8_0, rfl⟩ := hx9
    · exact (TX "java/lang/IllegalArgumentException" r h ⟨1, (show rf_c_span w d nn most = 2 from by simp only [rf_c_span, rf_cb, f1_0, f8_0, Bool.not_true, Bool.not_false, cond_true, cond_false]), rfl, ⟨rfl, (fun _ _ => rfl)⟩⟩ (2, 12) 8 [(0, .ref 0), (1, .int d), (2, .int nn), (3, .int (am_b most))] (Nat.le_of_ble_eq_true rfl) (Nat.le_of_ble_eq_true rfl)).1
  obtain ⟨f8_0, rfl, rfl, rfl⟩ := hq9
  show am_G X (am_VV ad) (2, 12) 11 [(0, .ref 0), (1, .int d), (2, .int nn), (3, .int (am_b most))] [] r h
  obtain ⟨nB, mB⟩ := rf_in_n0 (b := 24) (by decide) f8_0
  refine am_lsv (ls' := [(0, .ref 0), (1, .int d), (2, .int (nI (rf_nat nn))), (3, .int (am_b most))]) (congrArg (fun z9 : Int32 => ([(0, .ref 0), (1, .int d), (2, Value.int z9), (3, .int (am_b most))] : List (Nat × Value))) (show nn = (nI (rf_nat nn)) from nB)) ?_
  refine am_bipush (pc := 11) (v := nI 120) C dX11_span_11 (by decide) ?_
  refine am_istore (pc := 13) (ls' := [(0, .ref 0), (1, .int d), (2, .int (nI (rf_nat nn))), (3, .int (am_b most)), (4, .int (nI 120))]) C dX11_span_13 (by decide) rfl ?_
  refine am_iconstN (pc := 15) (k := 0) C dX11_span_15 ?_
  refine am_istore (pc := 16) (ls' := [(0, .ref 0), (1, .int d), (2, .int (nI (rf_nat nn))), (3, .int (am_b most)), (4, .int (nI 120)), (5, .int (nI 0))]) C dX11_span_16 (by decide) rfl ?_
  refine am_iconstN (pc := 18) (k := 1) C dX11_span_18 ?_
  refine am_istore (pc := 19) (ls' := [(0, .ref 0), (1, .int d), (2, .int (nI (rf_nat nn))), (3, .int (am_b most)), (4, .int (nI 120)), (5, .int (nI 0)), (6, .int (nI 1))]) C dX11_span_19 (by decide) rfl ?_
  have L21 : ∀ (j21 : Nat) (gk : am_H) (k : Nat), (hkj : k + j21 = 6) → (hFk : cl_fq h gk) → am_G X (am_VV ad) (2, 12) 21 [(0, .ref 0), (1, .int d), (2, .int (nI (rf_nat nn))), (3, .int (am_b most)), (4, .int (nI (cl_mn w (rf_nat d) (rf_nat nn) k))), (5, .int (nI (cl_mx w (rf_nat d) (rf_nat nn) k))), (6, .int (nI (k + 1)))] [] r gk := by
    intro j21
    induction j21 with
    | zero =>
      intro gk k hkj hFk
      have hk6 : k = 6 := by omega
      refine am_iload (pc := 21) C dX11_span_21 rfl ?_
      refine am_bipush (pc := 23) (v := nI 6) C dX11_span_23 (by decide) ?_
      refine am_icmp_gtN (pc := 25) (tgt := 115) C dX11_span_25 (by decide) (by omega) (by omega) (fun q25 => ?_) (fun q25 => ?_)
      · skip
        refine am_iload_n (pc := 115) C dX11_span_115 rfl ?_
        refine am_if_eqB (pc := 116) (tgt := 124) C dX11_span_116 (by decide) (fun q116 => ?_) (fun q116 => ?_)
        · skip
          refine am_iload (pc := 124) C dX11_span_124 rfl ?_
          have K9 : rf_c_span w d nn most = 0 := (show rf_c_span w d nn most = 0 from by simp only [rf_c_span, rf_cb, f1_0, f8_0, Bool.not_true, Bool.not_false, cond_true, cond_false])
          have A9 : rf_a_span w d nn most = (nI (cl_mn w (rf_nat d) (rf_nat nn) k)) := (by rw [rf_a_span, q116, hk6]; exact cl_spn hV)
          exact am_iret T dX11_span_126 rfl rfl (Nat.le_of_ble_eq_true rfl) (Nat.le_of_ble_eq_true rfl) ⟨K9, by rw [A9], ⟨rfl, (fun i h9 => hFk i (by omega))⟩⟩
        · skip
          refine am_iload (pc := 119) C dX11_span_119 rfl ?_
          refine am_goto (pc := 121) (tgt := 126) C dX11_span_121 (by decide) ?_
          have K9 : rf_c_span w d nn most = 0 := (show rf_c_span w d nn most = 0 from by simp only [rf_c_span, rf_cb, f1_0, f8_0, Bool.not_true, Bool.not_false, cond_true, cond_false])
          have A9 : rf_a_span w d nn most = (nI (cl_mx w (rf_nat d) (rf_nat nn) k)) := (by rw [rf_a_span, q116, hk6]; exact cl_spx hV)
          exact am_iret T dX11_span_126 rfl rfl (Nat.le_of_ble_eq_true rfl) (Nat.le_of_ble_eq_true rfl) ⟨K9, by rw [A9], ⟨rfl, (fun i h9 => hFk i (by omega))⟩⟩
      · skip
        exact absurd q25 (by omega)
    | succ j21 ih21 =>
      intro gk k hkj hFk
      have hmx := cl_mx_le (d := rf_nat d) (n := rf_nat nn) hV k
      have hmn := cl_mn_le (d := rf_nat d) (n := rf_nat nn) hV k
      have hsp := cl_sps_le (d := rf_nat d) (n := rf_nat nn) (k := k + 1) hV
      have Es : rf_Es w (upd w 10 (nI (k + 1))) := ⟨fun a ha => rf_upd_ne (by omega), fun t k9 ht hk => rf_upd_ne (by omega)⟩
      have Ees : rf_Eq w (upd w 10 (nI (k + 1))) := ⟨fun a ha => rf_upd_ne (by omega), fun a ha => rf_upd_ne (by omega)⟩
      have hVs : rf_I (upd w 10 (nI (k + 1))) := rf_I_num hV (fun a h1 h2 h3 h4 => rf_upd_ne h4)
      have hLws := Ees.L hLw
      have hBs : rf_n ((upd w 10 (nI (k + 1))) 7) 1073000000 := by rw [rf_upd_ne (by decide)]; exact hB
      refine am_iload (pc := 21) C dX11_span_21 rfl ?_
      refine am_bipush (pc := 23) (v := nI 6) C dX11_span_23 (by decide) ?_
      refine am_icmp_gtN (pc := 25) (tgt := 115) C dX11_span_25 (by decide) (by omega) (by omega) (fun q25 => ?_) (fun q25 => ?_)
      · skip
        exact absurd q25 (by omega)
      · skip
        refine am_aload_n (pc := 28) C dX11_span_28 rfl ?_
        refine am_getR (pc := 29) (j := 40) C dX11_span_29 f11_39 bn_0 sh_0 (rf_0_2 hR) ?_
        refine am_getR (pc := 32) (j := 41) C dX11_span_32 f11_177 bn_40 sh_40 (rf_40_2 hR) ?_
        refine am_aload_n (pc := 35) C dX11_span_35 rfl ?_
        refine am_getR (pc := 36) (j := 3) C dX11_span_36 f11_27 bn_0 sh_0 (rf_0_1 hR) ?_
        refine am_getR (pc := 39) (j := 25) C dX11_span_39 f11_177 bn_3 sh_3 (rf_3_2 hR) ?_
        refine am_callVvr (Y := mX5_copyFrom) (pc := 42) (st := []) (As := [.ref 25]) (PP := fun c9 => cl_Sc c9 41 w ∧ cl_fr (gk) c9 41 15) C dX11_span_42 k11_422 v_X5_copyFrom rfl rfl bn_41 sh_41 ⟨by decide, rfl⟩ (by decide) (Nat.le_of_ble_eq_true rfl) (Nat.le_of_ble_eq_true rfl) (Nat.le_of_ble_eq_true rfl) (c_X5_copyFrom hR w (show rf_I w from hV) (show cl_Sc (gk) 25 w from (cl_Sc_eq (fun i a b => hFk i (by omega)) hSc))) (fun g42_1 hg42_1 => ?_)
        obtain ⟨S42, F42⟩ := hg42_1
        refine am_aload_n (pc := 45) C dX11_span_45 rfl ?_
        refine am_getR (pc := 46) (j := 40) C dX11_span_46 f11_39 bn_0 sh_0 (rf_0_2 hR) ?_
        refine am_getR (pc := 49) (j := 41) C dX11_span_49 f11_177 bn_40 sh_40 (rf_40_2 hR) ?_
        refine am_iload (pc := 52) C dX11_span_52 rfl ?_
        refine am_putI (pc := 54) C dX11_span_54 f11_430 bn_41 sh_41 rfl rfl ?_
        refine am_hp (show am_up g42_1 41 1 (nI (k + 1)) = am_row g42_1 41 (upd (g42_1 41) 1 (nI (k + 1))) from am_up_rw _ _ _ _) ?_
        refine am_iconstN (pc := 57) (k := 0) C dX11_span_57 ?_
        refine am_istore (pc := 58) (ls' := [(0, .ref 0), (1, .int d), (2, .int (nI (rf_nat nn))), (3, .int (am_b most)), (4, .int (nI (cl_mn w (rf_nat d) (rf_nat nn) k))), (5, .int (nI (cl_mx w (rf_nat d) (rf_nat nn) k))), (6, .int (nI (k + 1))), (7, .int (nI 0))]) C dX11_span_58 (by decide) rfl ?_
        have L60 : ∀ (j60 : Nat) (gm : am_H) (m : Nat), (hmj : m + j60 = rf_nat nn) → (hSm : cl_Sc gm 41 (rf_hrs (upd w 10 (nI (k + 1))) m)) → (hFm : cl_fq h gm) → am_G X (am_VV ad) (2, 12) 60 [(0, .ref 0), (1, .int d), (2, .int (nI (rf_nat nn))), (3, .int (am_b most)), (4, .int (nI (cl_mn w (rf_nat d) (rf_nat nn) k))), (5, .int (nI (cl_mx w (rf_nat d) (rf_nat nn) k))), (6, .int (nI (k + 1))), (7, .int (nI m))] [] r gm := by
          intro j60
          induction j60 with
          | zero =>
            intro gm m hmj hSm hFm
            obtain ⟨Vm, Pm, Lwm⟩ := rf_hrs_ok hVs hLws m
            obtain ⟨Em, Bm⟩ := rf_hrs_es hVs hBs m (by omega)
            have Lm := cl_Lo_Es hVs Em (cl_Lo_Es hV Es (cl_Lo_eq (fun i a b => hFm i (by omega)) hLo))
            have Am := cl_La_fq (Es.tr Em) hFm hA
            refine am_iload (pc := 60) C dX11_span_60 rfl ?_
            refine am_iload_n (pc := 62) C dX11_span_62 rfl ?_
            refine am_icmp_geN (pc := 63) (tgt := 79) C dX11_span_63 (by decide) (by omega) (by omega) (fun q63 => ?_) (fun q63 => ?_)
            · skip
              refine am_iload (pc := 79) C dX11_span_79 rfl ?_
              refine am_aload_n (pc := 81) C dX11_span_81 rfl ?_
              refine am_getR (pc := 82) (j := 40) C dX11_span_82 f11_39 bn_0 sh_0 (rf_0_2 hR) ?_
              refine am_iload_n (pc := 85) C dX11_span_85 rfl ?_
              refine am_callVi (Y := mX10_usableInAll) (pc := 86) (st := [.int (nI (cl_mn w (rf_nat d) (rf_nat nn) k))]) (As := [.int d]) (x := (rf_ui (rf_hrs (upd w 10 (nI (k + 1))) m) d (rf_S (rf_hrs (upd w 10 (nI (k + 1))) m)))) (h2 := gm) C dX11_span_86 k11_427 v_X10_usableInAll rfl rfl bn_40 sh_40 ⟨by decide, rfl⟩ (by decide) (Nat.le_of_ble_eq_true rfl) (Nat.le_of_ble_eq_true rfl) (Nat.le_of_ble_eq_true rfl) (c_X10_usableInAll_p hR d (rf_hrs (upd w 10 (nI (k + 1))) m) (show rf_I (rf_hrs (upd w 10 (nI (k + 1))) m) from Vm) (show cl_Lo (gm) 4 (rf_hrs (upd w 10 (nI (k + 1))) m) from Lm) (show cl_Sc (gm) 41 (rf_hrs (upd w 10 (nI (k + 1))) m) from hSm)) ?_
              refine am_top (show (rf_ui (rf_hrs (upd w 10 (nI (k + 1))) m) d (rf_S (rf_hrs (upd w 10 (nI (k + 1))) m))) = (nI (rf_nat (rf_sps w (rf_nat d) (rf_nat nn) (k + 1)))) from (cl_sps (dd := rf_nat d) hV nA mA (show m = rf_nat nn by omega))) ?_
              refine am_callSi (Y := mJ9_min_7cf53) (pc := 89) (st := []) (As := [.int (nI (cl_mn w (rf_nat d) (rf_nat nn) k)), .int (nI (rf_nat (rf_sps w (rf_nat d) (rf_nat nn) (k + 1))))]) (x := (rf_min (nI (cl_mn w (rf_nat d) (rf_nat nn) k)) (nI (rf_nat (rf_sps w (rf_nat d) (rf_nat nn) (k + 1)))))) (h2 := gm) C dX11_span_89 k11_433 v_J9_min_7cf53 rfl rfl (by decide) (Nat.le_of_ble_eq_true rfl) (Nat.le_of_ble_eq_true rfl) (Nat.le_of_ble_eq_true rfl) (c_J9_min_7cf53 hR (nI (cl_mn w (rf_nat d) (rf_nat nn) k)) (nI (rf_nat (rf_sps w (rf_nat d) (rf_nat nn) (k + 1))))) ?_
              refine am_istore (pc := 92) (ls' := [(0, .ref 0), (1, .int d), (2, .int (nI (rf_nat nn))), (3, .int (am_b most)), (4, .int (rf_min (nI (cl_mn w (rf_nat d) (rf_nat nn) k)) (nI (rf_nat (rf_sps w (rf_nat d) (rf_nat nn) (k + 1)))))), (5, .int (nI (cl_mx w (rf_nat d) (rf_nat nn) k))), (6, .int (nI (k + 1))), (7, .int (nI m))]) C dX11_span_92 (by decide) rfl ?_
              refine am_iload (pc := 94) C dX11_span_94 rfl ?_
              refine am_aload_n (pc := 96) C dX11_span_96 rfl ?_
              refine am_getR (pc := 97) (j := 40) C dX11_span_97 f11_39 bn_0 sh_0 (rf_0_2 hR) ?_
              refine am_iload_n (pc := 100) C dX11_span_100 rfl ?_
              refine am_callVi (Y := mX10_usableInAll) (pc := 101) (st := [.int (nI (cl_mx w (rf_nat d) (rf_nat nn) k))]) (As := [.int d]) (x := (rf_ui (rf_hrs (upd w 10 (nI (k + 1))) m) d (rf_S (rf_hrs (upd w 10 (nI (k + 1))) m)))) (h2 := gm) C dX11_span_101 k11_427 v_X10_usableInAll rfl rfl bn_40 sh_40 ⟨by decide, rfl⟩ (by decide) (Nat.le_of_ble_eq_true rfl) (Nat.le_of_ble_eq_true rfl) (Nat.le_of_ble_eq_true rfl) (c_X10_usableInAll_p hR d (rf_hrs (upd w 10 (nI (k + 1))) m) (show rf_I (rf_hrs (upd w 10 (nI (k + 1))) m) from Vm) (show cl_Lo (gm) 4 (rf_hrs (upd w 10 (nI (k + 1))) m) from Lm) (show cl_Sc (gm) 41 (rf_hrs (upd w 10 (nI (k + 1))) m) from hSm)) ?_
              refine am_top (show (rf_ui (rf_hrs (upd w 10 (nI (k + 1))) m) d (rf_S (rf_hrs (upd w 10 (nI (k + 1))) m))) = (nI (rf_nat (rf_sps w (rf_nat d) (rf_nat nn) (k + 1)))) from (cl_sps (dd := rf_nat d) hV nA mA (show m = rf_nat nn by omega))) ?_
              refine am_callSi (Y := mJ9_max_7cf53) (pc := 104) (st := []) (As := [.int (nI (cl_mx w (rf_nat d) (rf_nat nn) k)), .int (nI (rf_nat (rf_sps w (rf_nat d) (rf_nat nn) (k + 1))))]) (x := (rf_max (nI (cl_mx w (rf_nat d) (rf_nat nn) k)) (nI (rf_nat (rf_sps w (rf_nat d) (rf_nat nn) (k + 1)))))) (h2 := gm) C dX11_span_104 k11_438 v_J9_max_7cf53 rfl rfl (by decide) (Nat.le_of_ble_eq_true rfl) (Nat.le_of_ble_eq_true rfl) (Nat.le_of_ble_eq_true rfl) (c_J9_max_7cf53 hR (nI (cl_mx w (rf_nat d) (rf_nat nn) k)) (nI (rf_nat (rf_sps w (rf_nat d) (rf_nat nn) (k + 1))))) ?_
              refine am_istore (pc := 107) (ls' := [(0, .ref 0), (1, .int d), (2, .int (nI (rf_nat nn))), (3, .int (am_b most)), (4, .int (rf_min (nI (cl_mn w (rf_nat d) (rf_nat nn) k)) (nI (rf_nat (rf_sps w (rf_nat d) (rf_nat nn) (k + 1)))))), (5, .int (rf_max (nI (cl_mx w (rf_nat d) (rf_nat nn) k)) (nI (rf_nat (rf_sps w (rf_nat d) (rf_nat nn) (k + 1)))))), (6, .int (nI (k + 1))), (7, .int (nI m))]) C dX11_span_107 (by decide) rfl ?_
              refine am_iincN (pc := 109) (ls' := [(0, .ref 0), (1, .int d), (2, .int (nI (rf_nat nn))), (3, .int (am_b most)), (4, .int (rf_min (nI (cl_mn w (rf_nat d) (rf_nat nn) k)) (nI (rf_nat (rf_sps w (rf_nat d) (rf_nat nn) (k + 1)))))), (5, .int (rf_max (nI (cl_mx w (rf_nat d) (rf_nat nn) k)) (nI (rf_nat (rf_sps w (rf_nat d) (rf_nat nn) (k + 1)))))), (6, .int (nI (k + 1 + 1))), (7, .int (nI m))]) C dX11_span_109 rfl (am_up1 _) (by decide) rfl ?_
              refine am_goto (pc := 112) (tgt := 21) C dX11_span_112 (by decide) ?_
              refine am_sub (ls' := [(0, .ref 0), (1, .int d), (2, .int (nI (rf_nat nn))), (3, .int (am_b most)), (4, .int (rf_min (nI (cl_mn w (rf_nat d) (rf_nat nn) k)) (nI (rf_nat (rf_sps w (rf_nat d) (rf_nat nn) (k + 1)))))), (5, .int (rf_max (nI (cl_mx w (rf_nat d) (rf_nat nn) k)) (nI (rf_nat (rf_sps w (rf_nat d) (rf_nat nn) (k + 1)))))), (6, .int (nI (k + 1 + 1)))]) (by intro q hq; simp only [List.mem_cons, List.not_mem_nil, or_false] at hq ⊢; rcases hq with rfl | rfl | rfl | rfl | rfl | rfl | rfl <;> simp) ?_
              refine am_lsv (ls' := [(0, .ref 0), (1, .int d), (2, .int (nI (rf_nat nn))), (3, .int (am_b most)), (4, .int (nI (cl_mn w (rf_nat d) (rf_nat nn) (k + 1)))), (5, .int (rf_max (nI (cl_mx w (rf_nat d) (rf_nat nn) k)) (nI (rf_nat (rf_sps w (rf_nat d) (rf_nat nn) (k + 1)))))), (6, .int (nI (k + 1 + 1)))]) (congrArg (fun z9 : Int32 => ([(0, .ref 0), (1, .int d), (2, .int (nI (rf_nat nn))), (3, .int (am_b most)), (4, Value.int z9), (5, .int (rf_max (nI (cl_mx w (rf_nat d) (rf_nat nn) k)) (nI (rf_nat (rf_sps w (rf_nat d) (rf_nat nn) (k + 1)))))), (6, .int (nI (k + 1 + 1)))] : List (Nat × Value))) (show (rf_min (nI (cl_mn w (rf_nat d) (rf_nat nn) k)) (nI (rf_nat (rf_sps w (rf_nat d) (rf_nat nn) (k + 1))))) = (nI (cl_mn w (rf_nat d) (rf_nat nn) (k + 1))) from (rf_min_N (by omega) (by omega)))) ?_
              refine am_lsv (ls' := [(0, .ref 0), (1, .int d), (2, .int (nI (rf_nat nn))), (3, .int (am_b most)), (4, .int (nI (cl_mn w (rf_nat d) (rf_nat nn) (k + 1)))), (5, .int (nI (cl_mx w (rf_nat d) (rf_nat nn) (k + 1)))), (6, .int (nI (k + 1 + 1)))]) (congrArg (fun z9 : Int32 => ([(0, .ref 0), (1, .int d), (2, .int (nI (rf_nat nn))), (3, .int (am_b most)), (4, .int (nI (cl_mn w (rf_nat d) (rf_nat nn) (k + 1)))), (5, Value.int z9), (6, .int (nI (k + 1 + 1)))] : List (Nat × Value))) (show (rf_max (nI (cl_mx w (rf_nat d) (rf_nat nn) k)) (nI (rf_nat (rf_sps w (rf_nat d) (rf_nat nn) (k + 1))))) = (nI (cl_mx w (rf_nat d) (rf_nat nn) (k + 1))) from (rf_max_N (by omega) (by omega)))) ?_
              refine am_lsv (ls' := [(0, .ref 0), (1, .int d), (2, .int (nI (rf_nat nn))), (3, .int (am_b most)), (4, .int (nI (cl_mn w (rf_nat d) (rf_nat nn) (k + 1)))), (5, .int (nI (cl_mx w (rf_nat d) (rf_nat nn) (k + 1)))), (6, .int (nI ((k + 1) + 1)))]) (congrArg (fun z9 : Int32 => ([(0, .ref 0), (1, .int d), (2, .int (nI (rf_nat nn))), (3, .int (am_b most)), (4, .int (nI (cl_mn w (rf_nat d) (rf_nat nn) (k + 1)))), (5, .int (nI (cl_mx w (rf_nat d) (rf_nat nn) (k + 1)))), (6, Value.int z9)] : List (Nat × Value))) (show (nI (k + 1 + 1)) = (nI ((k + 1) + 1)) from rfl)) ?_
              exact ih21 gm (k + 1) (by omega) hFm
            · skip
              exact absurd q63 (by omega)
          | succ j60 ih60 =>
            intro gm m hmj hSm hFm
            obtain ⟨Vm, Pm, Lwm⟩ := rf_hrs_ok hVs hLws m
            obtain ⟨Em, Bm⟩ := rf_hrs_es hVs hBs m (by omega)
            have Lm := cl_Lo_Es hVs Em (cl_Lo_Es hV Es (cl_Lo_eq (fun i a b => hFm i (by omega)) hLo))
            have Am := cl_La_fq (Es.tr Em) hFm hA
            refine am_iload (pc := 60) C dX11_span_60 rfl ?_
            refine am_iload_n (pc := 62) C dX11_span_62 rfl ?_
            refine am_icmp_geN (pc := 63) (tgt := 79) C dX11_span_63 (by decide) (by omega) (by omega) (fun q63 => ?_) (fun q63 => ?_)
            · skip
              exact absurd q63 (by omega)
            · skip
              refine am_aload_n (pc := 66) C dX11_span_66 rfl ?_
              refine am_getR (pc := 67) (j := 40) C dX11_span_67 f11_39 bn_0 sh_0 (rf_0_2 hR) ?_
              refine am_callVvr (Y := mX10_passHour) (pc := 70) (st := []) (As := []) (PP := fun c9 => cl_Sc c9 41 (rf_hour (rf_hrs (upd w 10 (nI (k + 1))) m)) ∧ cl_fq (gm) c9) C dX11_span_70 k11_278 v_X10_passHour rfl rfl bn_40 sh_40 ⟨by decide, rfl⟩ (by decide) (Nat.le_of_ble_eq_true rfl) (Nat.le_of_ble_eq_true rfl) (Nat.le_of_ble_eq_true rfl) (c_X10_passHour_p hR (rf_hrs (upd w 10 (nI (k + 1))) m) (show rf_I (rf_hrs (upd w 10 (nI (k + 1))) m) from Vm) (show cl_Lo (gm) 4 (rf_hrs (upd w 10 (nI (k + 1))) m) from Lm) (show cl_Sc (gm) 41 (rf_hrs (upd w 10 (nI (k + 1))) m) from hSm) (show rf_n ((rf_hrs (upd w 10 (nI (k + 1))) m) 7) 1073741824 from ⟨Bm.1, by have h9 := Bm.2; omega⟩) (show rf_Lw (rf_hrs (upd w 10 (nI (k + 1))) m) from Lwm) (show rf_Lk (rf_hrs (upd w 10 (nI (k + 1))) m) from (rf_Lk_Eq Pm (rf_Lk_Eq Ees hLk))) (show cl_La (gm) 17 (rf_hrs (upd w 10 (nI (k + 1))) m) from Am)) (fun g70_3 hg70_3 => ?_)
              obtain ⟨S70, F70⟩ := hg70_3
              refine am_iincN (pc := 73) (ls' := [(0, .ref 0), (1, .int d), (2, .int (nI (rf_nat nn))), (3, .int (am_b most)), (4, .int (nI (cl_mn w (rf_nat d) (rf_nat nn) k))), (5, .int (nI (cl_mx w (rf_nat d) (rf_nat nn) k))), (6, .int (nI (k + 1))), (7, .int (nI (m + 1)))]) C dX11_span_73 rfl (am_up1 _) (by decide) rfl ?_
              refine am_goto (pc := 76) (tgt := 60) C dX11_span_76 (by decide) ?_
              exact ih60 g70_3 (m + 1) (by omega) S70 (fun i h9 => (F70 i h9).trans (hFm i h9))
        exact L60 (rf_nat nn) (am_row g42_1 41 (upd (g42_1 41) 1 (nI (k + 1)))) 0 (by omega) (cl_Sc_num hV S42 (Or.inr (Or.inl ⟨rfl, rfl⟩)) (by rw [am_row_at]) (fun i a b => by rw [am_row_ne _ _ _ (by omega)])) (fun i h9 => (am_row_ne _ _ _ (by omega)).trans ((F42 i (by omega)).trans (hFk i h9)))
  refine am_lsv (ls' := [(0, .ref 0), (1, .int d), (2, .int (nI (rf_nat nn))), (3, .int (am_b most)), (4, .int (nI (cl_mn w (rf_nat d) (rf_nat nn) 0))), (5, .int (nI 0)), (6, .int (nI 1))]) (congrArg (fun z9 : Int32 => ([(0, .ref 0), (1, .int d), (2, .int (nI (rf_nat nn))), (3, .int (am_b most)), (4, Value.int z9), (5, .int (nI 0)), (6, .int (nI 1))] : List (Nat × Value))) (show (nI 120) = (nI (cl_mn w (rf_nat d) (rf_nat nn) 0)) from rfl)) ?_
  refine am_lsv (ls' := [(0, .ref 0), (1, .int d), (2, .int (nI (rf_nat nn))), (3, .int (am_b most)), (4, .int (nI (cl_mn w (rf_nat d) (rf_nat nn) 0))), (5, .int (nI (cl_mx w (rf_nat d) (rf_nat nn) 0))), (6, .int (nI 1))]) (congrArg (fun z9 : Int32 => ([(0, .ref 0), (1, .int d), (2, .int (nI (rf_nat nn))), (3, .int (am_b most)), (4, .int (nI (cl_mn w (rf_nat d) (rf_nat nn) 0))), (5, Value.int z9), (6, .int (nI 1))] : List (Nat × Value))) (show (nI 0) = (nI (cl_mx w (rf_nat d) (rf_nat nn) 0)) from rfl)) ?_
  refine am_lsv (ls' := [(0, .ref 0), (1, .int d), (2, .int (nI (rf_nat nn))), (3, .int (am_b most)), (4, .int (nI (cl_mn w (rf_nat d) (rf_nat nn) 0))), (5, .int (nI (cl_mx w (rf_nat d) (rf_nat nn) 0))), (6, .int (nI (0 + 1)))]) (congrArg (fun z9 : Int32 => ([(0, .ref 0), (1, .int d), (2, .int (nI (rf_nat nn))), (3, .int (am_b most)), (4, .int (nI (cl_mn w (rf_nat d) (rf_nat nn) 0))), (5, .int (nI (cl_mx w (rf_nat d) (rf_nat nn) 0))), (6, Value.int z9)] : List (Nat × Value))) (show (nI 1) = (nI (0 + 1)) from rfl)) ?_
  exact L21 6 h 0 (by omega) (fun _ _ => rfl)

