/-! THE CLASS'S PUBLIC CALLS: what asks alone, the rest of it but trials -/
section M41
theorem cl_sea_at {p : Nat → Bool} {v : Nat → Int32} : ∀ n k i, k ≤ i → i < k + n → (∀ j, k ≤ j → j < i → p j = false) → p i = true → rf_sea p v n k = v i
  | 0, k, i, h1, h2, _, _ => absurd h2 (by omega)
  | n + 1, k, i, h1, h2, h3, h4 => by
    by_cases e : k = i
    · subst e; exact rf_sea_t h4
    · rw [rf_sea_f (h3 k (Nat.le_refl k) (by omega))]
      exact cl_sea_at n (k + 1) i (by omega) (by omega) (fun j a b => h3 j (by omega) b) h4
theorem cl_row_m1 {w : rf_W} {a : Int32} (h : rf_row w a = -1) : rf_okN a (rf_G w) = false := by
  cases hk : rf_okN a (rf_G w) with
  | false => rfl
  | true =>
    rw [rf_row, hk] at h
    have h60 : cl_row w (rf_nat a) < 60 := Nat.mod_lt _ (by decide)
    exact absurd (show nI (cl_row w (rf_nat a)) < 0 by rw [show nI (cl_row w (rf_nat a)) = -1 from h]; decide) (nI_pos (by omega))
theorem cl_row_ne {w : rf_W} {a : Int32} (hV : rf_I w) (h : ¬ rf_row w a = -1) : rf_okN a (rf_G w) = true ∧ rf_nat a < rf_G w ∧ rf_row w a = nI (cl_row w (rf_nat a)) ∧ cl_row w (rf_nat a) < 60 := by
  have hG : rf_G w < 61 := hV.2.2.2.2.1.2.2.2.2
  cases hk : rf_okN a (rf_G w) with
  | false => exact absurd (by rw [rf_row, hk]; rfl) h
  | true => exact ⟨rfl, (rf_okN_n (by omega) hk).2, by rw [rf_row, hk]; rfl, Nat.mod_lt _ (by decide)⟩
theorem cl_w4 {x : Int32} (q1 : ¬ x < 0) (q6 : x ≤ nI 4) (e0 : ¬ x = nI 0) (e1 : ¬ x = nI 1) (e2 : ¬ x = nI 2) (e3 : ¬ x = nI 3) : x = nI 4 := by
  obtain ⟨j, hj, rfl⟩ := nI_of q1
  rw [nI_leI hj (by decide)] at q6
  rcases (show j = 0 ∨ j = 1 ∨ j = 2 ∨ j = 3 ∨ j = 4 by omega) with rfl | rfl | rfl | rfl | rfl
  · exact absurd rfl e0
  · exact absurd rfl e1
  · exact absurd rfl e2
  · exact absurd rfl e3
  · rfl
theorem cl_says_20 {w : rf_W} {s : Nat} (h : cl_says w 2 s = 0) : rf_says w 2 s = 0 := by
  have h2 : ¬ 0 < rf_says w 2 s := fun z => by have := cl_says_2.mpr z; omega
  omega
theorem cl_dl0 {w : rf_W} (h : (rf_dl w (rf_O w)).1 = 0) : (rf_dl w (rf_O w)).2 = am_oi (rf_dl w (rf_O w)).1 := by
  have key : ∀ m, (rf_dl w m).1 = 0 → (rf_dl w m).2 = -1 := by
    intro m
    induction m with
    | zero => intro _; rfl
    | succ m ih =>
      intro h
      by_cases hc : (rf_dl w m).1 = 0 ∨ rf_pc (rf_bearsAll w (rf_ord w m 1)) < (rf_dl w m).2
      · rw [rf_dl_yes hc] at h; exact absurd h (Nat.succ_ne_zero m)
      · rw [rf_dl_no hc] at h ⊢; exact ih h
  rw [key _ h, h, am_oi_0]
theorem cl_dlE {w : rf_W} : ∀ m, 0 < (rf_dl w m).1 → (rf_dl w m).2 = rf_pc (rf_bearsAll w (rf_ord w ((rf_dl w m).1 - 1) 1))
  | 0, h => absurd h (Nat.lt_irrefl 0)
  | m + 1, h => by
    by_cases hc : (rf_dl w m).1 = 0 ∨ rf_pc (rf_bearsAll w (rf_ord w m 1)) < (rf_dl w m).2
    · rw [rf_dl_yes hc]; rfl
    · rw [rf_dl_no hc] at h ⊢; exact cl_dlE m h
theorem cl_allLo {x : Int32} {M : Nat} (hM : M < 31) : am_lo (x &&& ((nI 1 <<< (nI M &&& 31)) - nI 1)) M := by
  have e : (nI 1 <<< (nI M &&& 31)) - nI 1 = nI (2 ^ M - 1) := by
    rw [am_shl1 hM]
    exact pk_sub (Nat.pow_pos (by decide))
  intro k hk
  rw [am_bt_and, e]
  by_cases hk2 : k < 32
  · rw [am_bt_nI hk2, Nat.testBit_lt_two_pow (Nat.lt_of_lt_of_le (Nat.sub_lt (Nat.pow_pos (by decide)) (by decide)) (Nat.pow_le_pow_right (by decide) hk)), Bool.and_false]
  · rw [am_bt_big (x := nI (2 ^ M - 1)) (by omega), Bool.and_false]
section CNT
variable {w : rf_W} {r what : Int32}
theorem cl_cnk {k : Nat} (hk : k < 4 ∨ k = 5 ∨ k = 6) (e : what = nI k) : rf_a_count w r what = w k := by
  subst e
  rcases (show k = 0 ∨ k = 1 ∨ k = 2 ∨ k = 3 ∨ k = 5 ∨ k = 6 by omega) with rfl | rfl | rfl | rfl | rfl | rfl <;> rfl
theorem cl_cn0 (e : what = nI 0) (h : w 0 = nI (rf_nat (w 0))) : rf_a_count w r what = nI (rf_M w) := (cl_cnk (k := 0) (by decide) e).trans h
theorem cl_cn1 (e : what = nI 1) (h : w 1 = nI (rf_nat (w 1))) : rf_a_count w r what = nI (rf_S w) := (cl_cnk (k := 1) (by decide) e).trans h
theorem cl_cn2 (e : what = nI 2) (h : w 2 = nI (rf_nat (w 2))) : rf_a_count w r what = nI (rf_O w) := (cl_cnk (k := 2) (by decide) e).trans h
theorem cl_cn6 (e : what = nI 6) (h : w 6 = nI (rf_nat (w 6))) : rf_a_count w r what = nI (rf_F w) := (cl_cnk (k := 6) (by decide) e).trans h
theorem cl_cn4 {h : am_H} (hx : rf_n (w 4) 2) (A : cl_La h 17 w) : (if w 4 = nI 1 then w 731 else -1) = h 17 0 := by
  have h2 := hx.2
  rcases (show rf_nat (w 4) = 0 ∨ rf_nat (w 4) = 1 by omega) with e | e
  · rw [if_neg (by rw [hx.1, e]; decide), A.1 e]
  · rw [if_pos (by rw [hx.1, e]), (A.2 (by omega)).1]
theorem cl_cnd (e0 : ¬ what = nI 0) (e1 : ¬ what = nI 1) (e2 : ¬ what = nI 2) (e3 : ¬ what = nI 3) (e4 : ¬ what = nI 4) (e5 : ¬ what = nI 5) (e6 : ¬ what = nI 6) (e7 : ¬ what = nI 7) (e8 : ¬ what = nI 8) (e9 : ¬ what = nI 9) (e10 : ¬ what = nI 10) (e11 : ¬ what = nI 11) (e12 : ¬ what = nI 12) : rf_a_count w r what = -1 := by
  rw [rf_a_count, if_neg e4, if_neg e7, if_neg e8, if_neg e9, if_neg e10, if_neg e11, if_neg e12, ex_inD (b := 6) (by decide) (fun k hk => by rcases (show k = 0 ∨ k = 1 ∨ k = 2 ∨ k = 3 ∨ k = 4 ∨ k = 5 ∨ k = 6 by omega) with rfl | rfl | rfl | rfl | rfl | rfl | rfl <;> assumption)]
  rfl
end CNT
end M41

set_option maxHeartbeats 400000 in
set_option maxRecDepth 100000 in
theorem c_X11_spread {ad : Nat → Nat} {r : am_R} (hR : am_rs r) {h : am_H} (m : Int32) (d : Int32) (nn : Int32) (w : rf_W) (hV : rf_I w) (hLo : cl_Lo (h) 4 w) (hSc : cl_Sc (h) 25 w)  : am_XM mX11_spread 7 3 18 [.ref 0, .int m, .int d, .int nn] (am_VV ad) r h (ex_ret (rf_c_spread w m d nn) (rf_a_spread w m d nn) (fun r9 h9 => r9 = r ∧ cl_k h h9)) (ex_thr ["java/lang/IndexOutOfBoundsException", "java/lang/IllegalArgumentException"] (rf_c_spread w m d nn) (fun r9 h9 => r9 = r ∧ cl_k h h9)) := by
  refine am_XM.of (by decide +kernel) (Nat.le_of_ble_eq_true rfl) (by decide) (fun X C T TX => ?_)
  show am_G X (am_VV ad) (0, 0) 0 [(0, .ref 0), (1, .int m), (2, .int d), (3, .int nn)] [] r h
  have hM9 : rf_M w < 17 := hV.1.1.2
  have hS9 : rf_S w < 11 := hV.1.2.1.2
  have hO9 : rf_O w < 11 := hV.1.2.2.2
  refine am_aload_n (pc := 0) C dX11_spread_0 rfl ?_
  refine am_iload_n (pc := 1) C dX11_spread_1 rfl ?_
  refine am_callVXc (Y := mX11_needMemory) (pc := 2) (st := []) (As := [.int m]) (cz := (1, 6)) C dX11_spread_2 k11_150 v_X11_needMemory rfl rfl bn_0 sh_0 ⟨by decide, rfl⟩ (by decide) (Nat.le_of_ble_eq_true rfl) (Nat.le_of_ble_eq_true rfl) (Nat.le_of_ble_eq_true rfl) (c_X11_needMemory hR m w hV hLo) rfl (fun E9 r9 h9 hx9 => ?_) (fun v9 r9 h9 hq9 => ?_)
  · obtain ⟨hx9, rfl, rfl⟩ := hx9
    obtain ⟨f2_0, rfl⟩ := hx9
    · exact (TX "java/lang/IndexOutOfBoundsException" r h ⟨0, (show rf_c_spread w m d nn = 1 from by simp only [rf_c_spread, rf_cb, f2_0, Bool.not_true, Bool.not_false, cond_true, cond_false]), rfl, ⟨rfl, (fun _ _ => rfl)⟩⟩ (1, 6) 2 [(0, .ref 0), (1, .int m), (2, .int d), (3, .int nn)] (Nat.le_of_ble_eq_true rfl) (Nat.le_of_ble_eq_true rfl)).1
  obtain ⟨f2_0, rfl, rfl, rfl⟩ := hq9
  show am_G X (am_VV ad) (1, 6) 5 [(0, .ref 0), (1, .int m), (2, .int d), (3, .int nn)] [] r h
  have nA := rf_okN_n (show rf_M w < 1073741824 by omega) f2_0
  have mA : rf_nat m < rf_M w := nA.2
  refine am_iload_n (pc := 5) C dX11_spread_5 rfl ?_
  refine am_callSXc (Y := mX11_needSide) (pc := 6) (st := []) (As := [.int d]) (cz := (2, 12)) C dX11_spread_6 k11_339 v_X11_needSide rfl rfl (by decide) (Nat.le_of_ble_eq_true rfl) (Nat.le_of_ble_eq_true rfl) (Nat.le_of_ble_eq_true rfl) (c_X11_needSide hR d) rfl (fun E9 r9 h9 hx9 => ?_) (fun v9 r9 h9 hq9 => ?_)
  · obtain ⟨hx9, rfl, rfl⟩ := hx9
    obtain ⟨f6_0, rfl⟩ := hx9
    · exact (TX "java/lang/IndexOutOfBoundsException" r h ⟨0, (show rf_c_spread w m d nn = 1 from by simp only [rf_c_spread, rf_cb, f2_0, f6_0, Bool.not_true, Bool.not_false, cond_true, cond_false]), rfl, ⟨rfl, (fun _ _ => rfl)⟩⟩ (2, 12) 6 [(0, .ref 0), (1, .int m), (2, .int d), (3, .int nn)] (Nat.le_of_ble_eq_true rfl) (Nat.le_of_ble_eq_true rfl)).1
  obtain ⟨f6_0, rfl, rfl, rfl⟩ := hq9
  show am_G X (am_VV ad) (2, 12) 9 [(0, .ref 0), (1, .int m), (2, .int d), (3, .int nn)] [] r h
  obtain ⟨nD, mD⟩ := rf_in_n0 (b := 1) (by decide) f6_0
  refine am_iload_n (pc := 9) C dX11_spread_9 rfl ?_
  refine am_iconstN (pc := 10) (k := 0) C dX11_spread_10 ?_
  refine am_bipush (pc := 11) (v := nI 60) C dX11_spread_11 (by decide) ?_
  refine am_callSXc (Y := mX11_needNumber) (pc := 13) (st := []) (As := [.int nn, .int (nI 0), .int (nI 60)]) (cz := (3, 18)) C dX11_spread_13 k11_234 v_X11_needNumber rfl rfl (by decide) (Nat.le_of_ble_eq_true rfl) (Nat.le_of_ble_eq_true rfl) (Nat.le_of_ble_eq_true rfl) (c_X11_needNumber hR nn 0 60) rfl (fun E9 r9 h9 hx9 => ?_) (fun v9 r9 h9 hq9 => ?_)
  · obtain ⟨hx9, rfl, rfl⟩ := hx9
    obtain ⟨f13_0, rfl⟩ := hx9
    · exact (TX "java/lang/IllegalArgumentException" r h ⟨1, (show rf_c_spread w m d nn = 2 from by simp only [rf_c_spread, rf_cb, f2_0, f6_0, f13_0, Bool.not_true, Bool.not_false, cond_true, cond_false]), rfl, ⟨rfl, (fun _ _ => rfl)⟩⟩ (3, 18) 13 [(0, .ref 0), (1, .int m), (2, .int d), (3, .int nn)] (Nat.le_of_ble_eq_true rfl) (Nat.le_of_ble_eq_true rfl)).1
  obtain ⟨f13_0, rfl, rfl, rfl⟩ := hq9
  show am_G X (am_VV ad) (3, 18) 16 [(0, .ref 0), (1, .int m), (2, .int d), (3, .int nn)] [] r h
  obtain ⟨nB, mB⟩ := rf_in_n0 (b := 60) (by decide) f13_0
  have hfs : rf_sub (rf_sideOf w d &&& rf_users w (rf_nat m)) (rf_sideOf w d) := fun j hj hb => by rw [am_bt_and, Bool.and_eq_true] at hb; exact hb.1
  refine am_lsv (ls' := [(0, .ref 0), (1, .int (nI (rf_nat m))), (2, .int d), (3, .int nn)]) (congrArg (fun z9 : Int32 => ([(0, .ref 0), (1, Value.int z9), (2, .int d), (3, .int nn)] : List (Nat × Value))) (show m = (nI (rf_nat m)) from nA.1)) ?_
  refine am_lsv (ls' := [(0, .ref 0), (1, .int (nI (rf_nat m))), (2, .int d), (3, .int (nI (rf_nat nn)))]) (congrArg (fun z9 : Int32 => ([(0, .ref 0), (1, .int (nI (rf_nat m))), (2, .int d), (3, Value.int z9)] : List (Nat × Value))) (show nn = (nI (rf_nat nn)) from nB)) ?_
  refine am_aload_n (pc := 16) C dX11_spread_16 rfl ?_
  refine am_getR (pc := 17) (j := 316) C dX11_spread_17 f11_85 bn_0 sh_0 (rf_0_9 hR) ?_
  refine am_iload_n (pc := 20) C dX11_spread_20 rfl ?_
  refine am_iload_n (pc := 21) C dX11_spread_21 rfl ?_
  refine am_callVv (Y := mX7_fillCrowds) (pc := 22) (st := []) (As := [.int d, .int (nI (rf_nat nn))]) (h2 := (am_row (am_row h 316 (upd (h 316) 2 (rf_sideOf w d))) 317 (cl_fc w (rf_sideOf w d) (rf_nat nn) (cl_z (h 317) (((rf_nat nn) + 1) * 8)) 10))) C dX11_spread_22 k11_376 v_X7_fillCrowds rfl rfl bn_316 sh_316 ⟨by decide, rfl⟩ (by decide) (Nat.le_of_ble_eq_true rfl) (Nat.le_of_ble_eq_true rfl) (Nat.le_of_ble_eq_true rfl) (c_X7_fillCrowds hR d (rf_nat nn) w hV hLo hSc (show (rf_nat nn) < 61 from by omega)) ?_
  refine am_aload_n (pc := 25) C dX11_spread_25 rfl ?_
  refine am_getR (pc := 26) (j := 316) C dX11_spread_26 f11_85 bn_0 sh_0 (rf_0_9 hR) ?_
  refine am_aload_n (pc := 29) C dX11_spread_29 rfl ?_
  refine am_getR (pc := 30) (j := 3) C dX11_spread_30 f11_27 bn_0 sh_0 (rf_0_1 hR) ?_
  refine am_iload_n (pc := 33) C dX11_spread_33 rfl ?_
  refine am_callVi (Y := mX10_sideBits) (pc := 34) (st := [.ref 316]) (As := [.int d]) (x := (rf_sideOf w d)) (h2 := (am_row (am_row h 316 (upd (h 316) 2 (rf_sideOf w d))) 317 (cl_fc w (rf_sideOf w d) (rf_nat nn) (cl_z (h 317) (((rf_nat nn) + 1) * 8)) 10))) C dX11_spread_34 k11_379 v_X10_sideBits rfl rfl bn_3 sh_3 ⟨by decide, rfl⟩ (by decide) (Nat.le_of_ble_eq_true rfl) (Nat.le_of_ble_eq_true rfl) (Nat.le_of_ble_eq_true rfl) (c_X10_sideBits hR d w hV (cl_Lo_eq (fun i9 h9 g9 => by rw [am_row_ne _ _ _ (by omega), am_row_ne _ _ _ (by omega)]) hLo) (cl_Sc_eq (fun i9 h9 g9 => by rw [am_row_ne _ _ _ (by omega), am_row_ne _ _ _ (by omega)]) hSc)) ?_
  refine am_aload_n (pc := 37) C dX11_spread_37 rfl ?_
  refine am_getR (pc := 38) (j := 3) C dX11_spread_38 f11_27 bn_0 sh_0 (rf_0_1 hR) ?_
  refine am_iload_n (pc := 41) C dX11_spread_41 rfl ?_
  refine am_callVi (Y := mX10_whoUse) (pc := 42) (st := [.int (rf_sideOf w d), .ref 316]) (As := [.int (nI (rf_nat m))]) (x := (rf_users w (rf_nat m))) (h2 := (am_row (am_row h 316 (upd (h 316) 2 (rf_sideOf w d))) 317 (cl_fc w (rf_sideOf w d) (rf_nat nn) (cl_z (h 317) (((rf_nat nn) + 1) * 8)) 10))) C dX11_spread_42 k11_174 v_X10_whoUse rfl rfl bn_3 sh_3 ⟨by decide, rfl⟩ (by decide) (Nat.le_of_ble_eq_true rfl) (Nat.le_of_ble_eq_true rfl) (Nat.le_of_ble_eq_true rfl) (c_X10_whoUse hR (rf_nat m) w hV (cl_Lo_eq (fun i9 h9 g9 => by rw [am_row_ne _ _ _ (by omega), am_row_ne _ _ _ (by omega)]) hLo) (cl_Sc_eq (fun i9 h9 g9 => by rw [am_row_ne _ _ _ (by omega), am_row_ne _ _ _ (by omega)]) hSc) (show (rf_nat m) < 32 from by omega)) ?_
  refine am_iand (pc := 45) C dX11_spread_45 ?_
  refine am_iconstN (pc := 46) (k := 0) C dX11_spread_46 ?_
  refine am_iload_n (pc := 47) C dX11_spread_47 rfl ?_
  refine am_callVi (Y := mX7_heardBehind) (pc := 48) (st := []) (As := [.int ((rf_sideOf w d) &&& (rf_users w (rf_nat m))), .int (nI 0), .int (nI (rf_nat nn))]) (x := (cl_hg (cl_fc w (rf_sideOf w d) (rf_nat nn) (cl_z (h 317) (((rf_nat nn) + 1) * 8)) 10) ((rf_sideOf w d) &&& (rf_users w (rf_nat m))) (nI 0) ((rf_nat nn) + 1))) (h2 := (am_row (am_row h 316 (upd (h 316) 2 (rf_sideOf w d))) 317 (cl_fc w (rf_sideOf w d) (rf_nat nn) (cl_z (h 317) (((rf_nat nn) + 1) * 8)) 10))) C dX11_spread_48 k11_382 v_X7_heardBehind rfl rfl bn_316 sh_316 ⟨by decide, rfl⟩ (by decide) (Nat.le_of_ble_eq_true rfl) (Nat.le_of_ble_eq_true rfl) (Nat.le_of_ble_eq_true rfl) (c_X7_heardBehind hR ((rf_sideOf w d) &&& (rf_users w (rf_nat m))) (nI 0) (rf_nat nn) (show (rf_nat nn) < 61 from (by omega)) (show ∀ n, n ≤ (rf_nat nn) → cl_hg (cl_fc w (rf_sideOf w d) (rf_nat nn) (cl_z (h 317) (((rf_nat nn) + 1) * 8)) 10) ((rf_sideOf w d) &&& (rf_users w (rf_nat m))) (nI 0) n = (upd (h 316) 2 (rf_sideOf w d)) 2 → cl_hg (cl_fc w (rf_sideOf w d) (rf_nat nn) (cl_z (h 317) (((rf_nat nn) + 1) * 8)) 10) ((rf_sideOf w d) &&& (rf_users w (rf_nat m))) (nI 0) ((rf_nat nn) + 1) = (upd (h 316) 2 (rf_sideOf w d)) 2 from (fun n9 hn hq => by rw [rf_upd_eq, cl_hg_hr hV (H := rf_nat nn) cl_z_0 hfs _ (by omega)] at hq ⊢; exact rf_hr_all hV hfs (by omega) hq))) ?_
  have K9 : rf_c_spread w m d nn = 0 := (show rf_c_spread w m d nn = 0 from by simp only [rf_c_spread, rf_cb, f2_0, f6_0, f13_0, Bool.not_true, Bool.not_false, cond_true, cond_false])
  have A9 : rf_a_spread w m d nn = (cl_hg (cl_fc w (rf_sideOf w d) (rf_nat nn) (cl_z (h 317) (((rf_nat nn) + 1) * 8)) 10) ((rf_sideOf w d) &&& (rf_users w (rf_nat m))) (nI 0) ((rf_nat nn) + 1)) := (by rw [cl_hg_hr hV (H := rf_nat nn) cl_z_0 hfs _ (Nat.le_refl _), rf_a_spread, ← nD, rf_usersOf, Int32.and_comm (rf_users w (rf_nat m)) (rf_sideOf w d)])
  exact am_iret T dX11_spread_51 rfl rfl (Nat.le_of_ble_eq_true rfl) (Nat.le_of_ble_eq_true rfl) ⟨K9, by rw [A9], ⟨rfl, (fun i9 h9 => by rw [am_row_ne _ _ _ (by omega), am_row_ne _ _ _ (by omega)])⟩⟩

set_option maxHeartbeats 400000 in
set_option maxRecDepth 100000 in
theorem c_X11_soonest {ad : Nat → Nat} {r : am_R} (hR : am_rs r) {h : am_H} (a : Int32) (b : Int32) (w : rf_W) (hV : rf_I w) (hLo : cl_Lo (h) 4 w) (hSc : cl_Sc (h) 25 w)  : am_XM mX11_soonest 7 3 18 [.ref 0, .int a, .int b] (am_VV ad) r h (ex_ret (rf_c_soonest w a b) (rf_a_soonest w a b) (fun r9 h9 => r9 = r ∧ cl_k h h9)) (ex_thr ["java/lang/IndexOutOfBoundsException", "java/lang/IllegalArgumentException"] (rf_c_soonest w a b) (fun r9 h9 => r9 = r ∧ cl_k h h9)) := by
  refine am_XM.of (by decide +kernel) (Nat.le_of_ble_eq_true rfl) (by decide) (fun X C T TX => ?_)
  show am_G X (am_VV ad) (0, 0) 0 [(0, .ref 0), (1, .int a), (2, .int b)] [] r h
  have hM9 : rf_M w < 17 := hV.1.1.2
  have hS9 : rf_S w < 11 := hV.1.2.1.2
  have hO9 : rf_O w < 11 := hV.1.2.2.2
  refine am_aload_n (pc := 0) C dX11_soonest_0 rfl ?_
  refine am_iload_n (pc := 1) C dX11_soonest_1 rfl ?_
  refine am_callVXc (Y := mX11_needSoldier) (pc := 2) (st := []) (As := [.int a]) (cz := (1, 6)) C dX11_soonest_2 k11_194 v_X11_needSoldier rfl rfl bn_0 sh_0 ⟨by decide, rfl⟩ (by decide) (Nat.le_of_ble_eq_true rfl) (Nat.le_of_ble_eq_true rfl) (Nat.le_of_ble_eq_true rfl) (c_X11_needSoldier hR a w hV hLo) rfl (fun E9 r9 h9 hx9 => ?_) (fun v9 r9 h9 hq9 => ?_)
  · obtain ⟨hx9, rfl, rfl⟩ := hx9
    obtain ⟨f2_0, rfl⟩ := hx9
    · exact (TX "java/lang/IndexOutOfBoundsException" r h ⟨0, (show rf_c_soonest w a b = 1 from by simp only [rf_c_soonest, rf_cb, f2_0, Bool.not_true, Bool.not_false, cond_true, cond_false]), rfl, ⟨rfl, (fun _ _ => rfl)⟩⟩ (1, 6) 2 [(0, .ref 0), (1, .int a), (2, .int b)] (Nat.le_of_ble_eq_true rfl) (Nat.le_of_ble_eq_true rfl)).1
  obtain ⟨f2_0, rfl, rfl, rfl⟩ := hq9
  show am_G X (am_VV ad) (1, 6) 5 [(0, .ref 0), (1, .int a), (2, .int b)] [] r h
  have nA := rf_okN_n (show rf_S w < 1073741824 by omega) f2_0
  have mA : rf_nat a < rf_S w := nA.2
  refine am_aload_n (pc := 5) C dX11_soonest_5 rfl ?_
  refine am_iload_n (pc := 6) C dX11_soonest_6 rfl ?_
  refine am_callVXc (Y := mX11_needSoldier) (pc := 7) (st := []) (As := [.int b]) (cz := (2, 12)) C dX11_soonest_7 k11_194 v_X11_needSoldier rfl rfl bn_0 sh_0 ⟨by decide, rfl⟩ (by decide) (Nat.le_of_ble_eq_true rfl) (Nat.le_of_ble_eq_true rfl) (Nat.le_of_ble_eq_true rfl) (c_X11_needSoldier hR b w hV hLo) rfl (fun E9 r9 h9 hx9 => ?_) (fun v9 r9 h9 hq9 => ?_)
  · obtain ⟨hx9, rfl, rfl⟩ := hx9
    obtain ⟨f7_0, rfl⟩ := hx9
    · exact (TX "java/lang/IndexOutOfBoundsException" r h ⟨0, (show rf_c_soonest w a b = 1 from by simp only [rf_c_soonest, rf_cb, f2_0, f7_0, Bool.not_true, Bool.not_false, cond_true, cond_false]), rfl, ⟨rfl, (fun _ _ => rfl)⟩⟩ (2, 12) 7 [(0, .ref 0), (1, .int a), (2, .int b)] (Nat.le_of_ble_eq_true rfl) (Nat.le_of_ble_eq_true rfl)).1
  obtain ⟨f7_0, rfl, rfl, rfl⟩ := hq9
  show am_G X (am_VV ad) (2, 12) 10 [(0, .ref 0), (1, .int a), (2, .int b)] [] r h
  have nB := rf_okN_n (show rf_S w < 1073741824 by omega) f7_0
  have mB : rf_nat b < rf_S w := nB.2
  refine am_lsv (ls' := [(0, .ref 0), (1, .int (nI (rf_nat a))), (2, .int b)]) (congrArg (fun z9 : Int32 => ([(0, .ref 0), (1, Value.int z9), (2, .int b)] : List (Nat × Value))) (show a = (nI (rf_nat a)) from nA.1)) ?_
  refine am_lsv (ls' := [(0, .ref 0), (1, .int (nI (rf_nat a))), (2, .int (nI (rf_nat b)))]) (congrArg (fun z9 : Int32 => ([(0, .ref 0), (1, .int (nI (rf_nat a))), (2, Value.int z9)] : List (Nat × Value))) (show b = (nI (rf_nat b)) from nB.1)) ?_
  refine am_aload_n (pc := 10) C dX11_soonest_10 rfl ?_
  refine am_getR (pc := 11) (j := 3) C dX11_soonest_11 f11_27 bn_0 sh_0 (rf_0_1 hR) ?_
  refine am_iload_n (pc := 14) C dX11_soonest_14 rfl ?_
  refine am_iload_n (pc := 15) C dX11_soonest_15 rfl ?_
  refine am_callVi (Y := mX10_ofOneSide) (pc := 16) (st := []) (As := [.int (nI (rf_nat a)), .int (nI (rf_nat b))]) (x := (am_b (decide (rf_of w (rf_nat a) 0 = rf_of w (rf_nat b) 0)))) (h2 := h) C dX11_soonest_16 k11_285 v_X10_ofOneSide rfl rfl bn_3 sh_3 ⟨by decide, rfl⟩ (by decide) (Nat.le_of_ble_eq_true rfl) (Nat.le_of_ble_eq_true rfl) (Nat.le_of_ble_eq_true rfl) (c_X10_ofOneSide hR (rf_nat a) (rf_nat b) w hV hLo hSc (show (rf_nat a) < rf_S w from by omega) (show (rf_nat b) < rf_S w from by omega)) ?_
  refine am_if_neB (pc := 19) (tgt := 33) C dX11_soonest_19 (by decide) (fun q19 => ?_) (fun q19 => ?_)
  · skip
    refine am_aload_n (pc := 33) C dX11_soonest_33 rfl ?_
    refine am_getR (pc := 34) (j := 316) C dX11_soonest_34 f11_85 bn_0 sh_0 (rf_0_9 hR) ?_
    refine am_iload_n (pc := 37) C dX11_soonest_37 rfl ?_
    refine am_iload_n (pc := 38) C dX11_soonest_38 rfl ?_
    refine am_callVir (Y := mX7_soonestHour) (pc := 39) (st := []) (As := [.int (nI (rf_nat a)), .int (nI (rf_nat b))]) (x := (rf_sea (fun n => am_bt (rf_hr w (nI 1 <<< (nI (rf_nat a) &&& 31)) (rf_of w (rf_nat a) 0) (nI 0) (n + 1)) (rf_nat b)) (fun n => nI n) 61 0)) (PP := fun c9 => cl_fr (h) c9 316 2) C dX11_soonest_39 k11_388 v_X7_soonestHour rfl rfl bn_316 sh_316 ⟨by decide, rfl⟩ (by decide) (Nat.le_of_ble_eq_true rfl) (Nat.le_of_ble_eq_true rfl) (Nat.le_of_ble_eq_true rfl) (c_X7_soonestHour hR (rf_nat a) (rf_nat b) w hV hLo hSc (show (rf_nat a) < rf_S w from by omega) (show (rf_nat b) < rf_S w from by omega)) (fun g39_0 hg39_0 => ?_)
    have F39 := hg39_0
    have K9 : rf_c_soonest w a b = 0 := (show rf_c_soonest w a b = 0 from by simp only [rf_c_soonest, rf_cb, f2_0, f7_0, q19, Bool.not_true, Bool.not_false, cond_true, cond_false])
    have A9 : rf_a_soonest w a b = (rf_sea (fun n => am_bt (rf_hr w (nI 1 <<< (nI (rf_nat a) &&& 31)) (rf_of w (rf_nat a) 0) (nI 0) (n + 1)) (rf_nat b)) (fun n => nI n) 61 0) := rfl
    exact am_iret T dX11_soonest_42 rfl rfl (Nat.le_of_ble_eq_true rfl) (Nat.le_of_ble_eq_true rfl) ⟨K9, by rw [A9], ⟨rfl, (fun i h9 => F39 i (by omega))⟩⟩
  · skip
    exact (TX "java/lang/IllegalArgumentException" r h ⟨1, (show rf_c_soonest w a b = 2 from by simp only [rf_c_soonest, rf_cb, f2_0, f7_0, q19, Bool.not_true, Bool.not_false, cond_true, cond_false]), rfl, ⟨rfl, (fun _ _ => rfl)⟩⟩ (2, 12) 22 [(0, .ref 0), (1, .int (nI (rf_nat a))), (2, .int (nI (rf_nat b)))] (Nat.le_of_ble_eq_true rfl) (Nat.le_of_ble_eq_true rfl)).2 (Nat.le_of_ble_eq_true rfl) (Nat.le_of_ble_eq_true rfl) ⟨rfl, 122, 386, 126, 41, 29, "they are of unlike sides", ex_ok_IA, ⟨List.mem_of_getElem? (i := 42) rfl, by decide⟩, dX11_soonest_22, dX11_soonest_25, Or.inr ⟨dX11_soonest_26, rfl⟩, dX11_soonest_29, dX11_soonest_32⟩ [] (by decide)

set_option maxHeartbeats 400000 in
set_option maxRecDepth 100000 in
theorem c_X11_mute {ad : Nat → Nat} {r : am_R} (hR : am_rs r) {h : am_H} (m : Int32) (d : Int32) (w : rf_W) (hV : rf_I w) (hLo : cl_Lo (h) 4 w) (hSc : cl_Sc (h) 25 w)  : am_XM mX11_mute 7 2 12 [.ref 0, .int m, .int d] (am_VV ad) r h (ex_ret (rf_c_mute w m d) (rf_a_mute w m d) (fun r9 h9 => r9 = r ∧ cl_k h h9)) (ex_thr ["java/lang/IndexOutOfBoundsException"] (rf_c_mute w m d) (fun r9 h9 => r9 = r ∧ cl_k h h9)) := by
  refine am_XM.of (by decide +kernel) (Nat.le_of_ble_eq_true rfl) (by decide) (fun X C T TX => ?_)
  show am_G X (am_VV ad) (0, 0) 0 [(0, .ref 0), (1, .int m), (2, .int d)] [] r h
  have hM9 : rf_M w < 17 := hV.1.1.2
  have hS9 : rf_S w < 11 := hV.1.2.1.2
  have hO9 : rf_O w < 11 := hV.1.2.2.2
  refine am_aload_n (pc := 0) C dX11_mute_0 rfl ?_
  refine am_iload_n (pc := 1) C dX11_mute_1 rfl ?_
  refine am_callVXc (Y := mX11_needMemory) (pc := 2) (st := []) (As := [.int m]) (cz := (1, 6)) C dX11_mute_2 k11_150 v_X11_needMemory rfl rfl bn_0 sh_0 ⟨by decide, rfl⟩ (by decide) (Nat.le_of_ble_eq_true rfl) (Nat.le_of_ble_eq_true rfl) (Nat.le_of_ble_eq_true rfl) (c_X11_needMemory hR m w hV hLo) rfl (fun E9 r9 h9 hx9 => ?_) (fun v9 r9 h9 hq9 => ?_)
  · obtain ⟨hx9, rfl, rfl⟩ := hx9
    obtain ⟨f2_0, rfl⟩ := hx9
    · exact (TX "java/lang/IndexOutOfBoundsException" r h ⟨0, (show rf_c_mute w m d = 1 from by simp only [rf_c_mute, rf_cb, f2_0, Bool.not_true, Bool.not_false, cond_true, cond_false]), rfl, ⟨rfl, (fun _ _ => rfl)⟩⟩ (1, 6) 2 [(0, .ref 0), (1, .int m), (2, .int d)] (Nat.le_of_ble_eq_true rfl) (Nat.le_of_ble_eq_true rfl)).1
  obtain ⟨f2_0, rfl, rfl, rfl⟩ := hq9
  show am_G X (am_VV ad) (1, 6) 5 [(0, .ref 0), (1, .int m), (2, .int d)] [] r h
  have nA := rf_okN_n (show rf_M w < 1073741824 by omega) f2_0
  have mA : rf_nat m < rf_M w := nA.2
  refine am_iload_n (pc := 5) C dX11_mute_5 rfl ?_
  refine am_callSXc (Y := mX11_needSide) (pc := 6) (st := []) (As := [.int d]) (cz := (2, 12)) C dX11_mute_6 k11_339 v_X11_needSide rfl rfl (by decide) (Nat.le_of_ble_eq_true rfl) (Nat.le_of_ble_eq_true rfl) (Nat.le_of_ble_eq_true rfl) (c_X11_needSide hR d) rfl (fun E9 r9 h9 hx9 => ?_) (fun v9 r9 h9 hq9 => ?_)
  · obtain ⟨hx9, rfl, rfl⟩ := hx9
    obtain ⟨f6_0, rfl⟩ := hx9
    · exact (TX "java/lang/IndexOutOfBoundsException" r h ⟨0, (show rf_c_mute w m d = 1 from by simp only [rf_c_mute, rf_cb, f2_0, f6_0, Bool.not_true, Bool.not_false, cond_true, cond_false]), rfl, ⟨rfl, (fun _ _ => rfl)⟩⟩ (2, 12) 6 [(0, .ref 0), (1, .int m), (2, .int d)] (Nat.le_of_ble_eq_true rfl) (Nat.le_of_ble_eq_true rfl)).1
  obtain ⟨f6_0, rfl, rfl, rfl⟩ := hq9
  show am_G X (am_VV ad) (2, 12) 9 [(0, .ref 0), (1, .int m), (2, .int d)] [] r h
  obtain ⟨nD, mD⟩ := rf_in_n0 (b := 1) (by decide) f6_0
  refine am_lsv (ls' := [(0, .ref 0), (1, .int (nI (rf_nat m))), (2, .int d)]) (congrArg (fun z9 : Int32 => ([(0, .ref 0), (1, Value.int z9), (2, .int d)] : List (Nat × Value))) (show m = (nI (rf_nat m)) from nA.1)) ?_
  refine am_aload_n (pc := 9) C dX11_mute_9 rfl ?_
  refine am_getR (pc := 10) (j := 316) C dX11_mute_10 f11_85 bn_0 sh_0 (rf_0_9 hR) ?_
  refine am_iload_n (pc := 13) C dX11_mute_13 rfl ?_
  refine am_iload_n (pc := 14) C dX11_mute_14 rfl ?_
  refine am_callVir (Y := mX7_fewestSilent) (pc := 15) (st := []) (As := [.int (nI (rf_nat m)), .int d]) (x := (rf_mu w (rf_usersOf w d (rf_nat m)) d (rf_sideOf w d) (rf_nat (rf_sideOf w d) + 1))) (PP := fun c9 => cl_fr (h) c9 316 2) C dX11_mute_15 k11_391 v_X7_fewestSilent rfl rfl bn_316 sh_316 ⟨by decide, rfl⟩ (by decide) (Nat.le_of_ble_eq_true rfl) (Nat.le_of_ble_eq_true rfl) (Nat.le_of_ble_eq_true rfl) (c_X7_fewestSilent hR (rf_nat m) d w hV hLo hSc (show (rf_nat m) < 32 from by omega)) (fun g15_0 hg15_0 => ?_)
  have F15 := hg15_0
  have K9 : rf_c_mute w m d = 0 := (show rf_c_mute w m d = 0 from by simp only [rf_c_mute, rf_cb, f2_0, f6_0, Bool.not_true, Bool.not_false, cond_true, cond_false])
  have A9 : rf_a_mute w m d = (rf_mu w (rf_usersOf w d (rf_nat m)) d (rf_sideOf w d) (rf_nat (rf_sideOf w d) + 1)) := (by rw [rf_a_mute, ← nD])
  exact am_iret T dX11_mute_18 rfl rfl (Nat.le_of_ble_eq_true rfl) (Nat.le_of_ble_eq_true rfl) ⟨K9, by rw [A9], ⟨rfl, (fun i h9 => F15 i (by omega))⟩⟩

set_option maxHeartbeats 400000 in
set_option maxRecDepth 100000 in
theorem c_X11_amends {ad : Nat → Nat} {r : am_R} (hR : am_rs r) {h : am_H} (s : Int32) (w : rf_W) (hV : rf_I w) (hLo : cl_Lo (h) 4 w) (hSc : cl_Sc (h) 25 w)  : am_XM mX11_amends 7 1 6 [.ref 0, .int s] (am_VV ad) r h (ex_ret (rf_c_amends w s) (rf_a_amends w s) (fun r9 h9 => r9 = r ∧ cl_k h h9)) (ex_thr ["java/lang/IndexOutOfBoundsException"] (rf_c_amends w s) (fun r9 h9 => r9 = r ∧ cl_k h h9)) := by
  refine am_XM.of (by decide +kernel) (Nat.le_of_ble_eq_true rfl) (by decide) (fun X C T TX => ?_)
  show am_G X (am_VV ad) (0, 0) 0 [(0, .ref 0), (1, .int s)] [] r h
  have hM9 : rf_M w < 17 := hV.1.1.2
  have hS9 : rf_S w < 11 := hV.1.2.1.2
  have hO9 : rf_O w < 11 := hV.1.2.2.2
  refine am_aload_n (pc := 0) C dX11_amends_0 rfl ?_
  refine am_iload_n (pc := 1) C dX11_amends_1 rfl ?_
  refine am_callVXc (Y := mX11_needSoldier) (pc := 2) (st := []) (As := [.int s]) (cz := (1, 6)) C dX11_amends_2 k11_194 v_X11_needSoldier rfl rfl bn_0 sh_0 ⟨by decide, rfl⟩ (by decide) (Nat.le_of_ble_eq_true rfl) (Nat.le_of_ble_eq_true rfl) (Nat.le_of_ble_eq_true rfl) (c_X11_needSoldier hR s w hV hLo) rfl (fun E9 r9 h9 hx9 => ?_) (fun v9 r9 h9 hq9 => ?_)
  · obtain ⟨hx9, rfl, rfl⟩ := hx9
    obtain ⟨f2_0, rfl⟩ := hx9
    · exact (TX "java/lang/IndexOutOfBoundsException" r h ⟨0, (show rf_c_amends w s = 1 from by simp only [rf_c_amends, rf_cb, f2_0, Bool.not_true, Bool.not_false, cond_true, cond_false]), rfl, ⟨rfl, (fun _ _ => rfl)⟩⟩ (1, 6) 2 [(0, .ref 0), (1, .int s)] (Nat.le_of_ble_eq_true rfl) (Nat.le_of_ble_eq_true rfl)).1
  obtain ⟨f2_0, rfl, rfl, rfl⟩ := hq9
  show am_G X (am_VV ad) (1, 6) 5 [(0, .ref 0), (1, .int s)] [] r h
  have nA := rf_okN_n (show rf_S w < 1073741824 by omega) f2_0
  have mA : rf_nat s < rf_S w := nA.2
  refine am_lsv (ls' := [(0, .ref 0), (1, .int (nI (rf_nat s)))]) (congrArg (fun z9 : Int32 => ([(0, .ref 0), (1, Value.int z9)] : List (Nat × Value))) (show s = (nI (rf_nat s)) from nA.1)) ?_
  refine am_aload_n (pc := 5) C dX11_amends_5 rfl ?_
  refine am_getR (pc := 6) (j := 314) C dX11_amends_6 f11_78 bn_0 sh_0 (rf_0_8 hR) ?_
  refine am_iload_n (pc := 9) C dX11_amends_9 rfl ?_
  refine am_callVi (Y := mX6_fewestForgotten) (pc := 10) (st := []) (As := [.int (nI (rf_nat s))]) (x := (rf_am w (rf_known w (rf_nat s)) (rf_nat (rf_known w (rf_nat s)) + 1))) (h2 := h) C dX11_amends_10 k11_394 v_X6_fewestForgotten rfl rfl bn_314 sh_314 ⟨by decide, rfl⟩ (by decide) (Nat.le_of_ble_eq_true rfl) (Nat.le_of_ble_eq_true rfl) (Nat.le_of_ble_eq_true rfl) (c_X6_fewestForgotten hR (rf_nat s) w hV hLo hSc (show (rf_nat s) < rf_S w from by omega)) ?_
  have K9 : rf_c_amends w s = 0 := (show rf_c_amends w s = 0 from by simp only [rf_c_amends, rf_cb, f2_0, Bool.not_true, Bool.not_false, cond_true, cond_false])
  have A9 : rf_a_amends w s = (rf_am w (rf_known w (rf_nat s)) (rf_nat (rf_known w (rf_nat s)) + 1)) := rfl
  exact am_iret T dX11_amends_13 rfl rfl (Nat.le_of_ble_eq_true rfl) (Nat.le_of_ble_eq_true rfl) ⟨K9, by rw [A9], ⟨rfl, (fun _ _ => rfl)⟩⟩

set_option maxHeartbeats 400000 in
set_option maxRecDepth 100000 in
theorem c_X11_meets {ad : Nat → Nat} {r : am_R} (hR : am_rs r) {h : am_H} (a : Int32) (b : Int32) (w : rf_W) (hV : rf_I w) (hLo : cl_Lo (h) 4 w) (hSc : cl_Sc (h) 25 w)  : am_XM mX11_meets 8 3 18 [.ref 0, .int a, .int b] (am_VV ad) r h (ex_ret (rf_c_meets w a b) (rf_a_meets w a b) (fun r9 h9 => r9 = r ∧ cl_k h h9)) (ex_thr ["java/lang/IndexOutOfBoundsException", "java/lang/IllegalArgumentException"] (rf_c_meets w a b) (fun r9 h9 => r9 = r ∧ cl_k h h9)) := by
  refine am_XM.of (by decide +kernel) (Nat.le_of_ble_eq_true rfl) (by decide) (fun X C T TX => ?_)
  show am_G X (am_VV ad) (0, 0) 0 [(0, .ref 0), (1, .int a), (2, .int b)] [] r h
  have hM9 : rf_M w < 17 := hV.1.1.2
  have hS9 : rf_S w < 11 := hV.1.2.1.2
  have hO9 : rf_O w < 11 := hV.1.2.2.2
  refine am_aload_n (pc := 0) C dX11_meets_0 rfl ?_
  refine am_iload_n (pc := 1) C dX11_meets_1 rfl ?_
  refine am_iload_n (pc := 2) C dX11_meets_2 rfl ?_
  refine am_callVXc (Y := mX11_needTwo) (pc := 3) (st := []) (As := [.int a, .int b]) (cz := (3, 18)) C dX11_meets_3 k11_281 v_X11_needTwo rfl rfl bn_0 sh_0 ⟨by decide, rfl⟩ (by decide) (Nat.le_of_ble_eq_true rfl) (Nat.le_of_ble_eq_true rfl) (Nat.le_of_ble_eq_true rfl) (c_X11_needTwo hR a b w hV hLo) rfl (fun E9 r9 h9 hx9 => ?_) (fun v9 r9 h9 hq9 => ?_)
  · obtain ⟨hx9, rfl, rfl⟩ := hx9
    rcases hx9 with ⟨f3_0, rfl⟩ | ⟨f3_0, f3_1, rfl⟩ | ⟨f3_0, f3_1, f3_2, rfl⟩
    · exact (TX "java/lang/IndexOutOfBoundsException" r h ⟨0, (show rf_c_meets w a b = 1 from by simp only [rf_c_meets, rf_cb, f3_0, Bool.not_true, Bool.not_false, cond_true, cond_false]), rfl, ⟨rfl, (fun _ _ => rfl)⟩⟩ (3, 18) 3 [(0, .ref 0), (1, .int a), (2, .int b)] (Nat.le_of_ble_eq_true rfl) (Nat.le_of_ble_eq_true rfl)).1
    · exact (TX "java/lang/IndexOutOfBoundsException" r h ⟨0, (show rf_c_meets w a b = 1 from by simp only [rf_c_meets, rf_cb, f3_0, f3_1, Bool.not_true, Bool.not_false, cond_true, cond_false]), rfl, ⟨rfl, (fun _ _ => rfl)⟩⟩ (3, 18) 3 [(0, .ref 0), (1, .int a), (2, .int b)] (Nat.le_of_ble_eq_true rfl) (Nat.le_of_ble_eq_true rfl)).1
    · exact (TX "java/lang/IllegalArgumentException" r h ⟨1, (show rf_c_meets w a b = 2 from by simp only [rf_c_meets, rf_cb, f3_0, f3_1, f3_2, Bool.not_true, Bool.not_false, cond_true, cond_false]), rfl, ⟨rfl, (fun _ _ => rfl)⟩⟩ (3, 18) 3 [(0, .ref 0), (1, .int a), (2, .int b)] (Nat.le_of_ble_eq_true rfl) (Nat.le_of_ble_eq_true rfl)).1
  obtain ⟨⟨f3_0, f3_1, f3_2⟩, rfl, rfl, rfl⟩ := hq9
  show am_G X (am_VV ad) (3, 18) 6 [(0, .ref 0), (1, .int a), (2, .int b)] [] r h
  have nA := rf_okN_n (show rf_S w < 1073741824 by omega) f3_0
  have mA : rf_nat a < rf_S w := nA.2
  have nB := rf_okN_n (show rf_S w < 1073741824 by omega) f3_1
  have mB : rf_nat b < rf_S w := nB.2
  refine am_lsv (ls' := [(0, .ref 0), (1, .int (nI (rf_nat a))), (2, .int b)]) (congrArg (fun z9 : Int32 => ([(0, .ref 0), (1, Value.int z9), (2, .int b)] : List (Nat × Value))) (show a = (nI (rf_nat a)) from nA.1)) ?_
  refine am_lsv (ls' := [(0, .ref 0), (1, .int (nI (rf_nat a))), (2, .int (nI (rf_nat b)))]) (congrArg (fun z9 : Int32 => ([(0, .ref 0), (1, .int (nI (rf_nat a))), (2, Value.int z9)] : List (Nat × Value))) (show b = (nI (rf_nat b)) from nB.1)) ?_
  refine am_iconstN (pc := 6) (k := 0) C dX11_meets_6 ?_
  refine am_istore_n (pc := 7) (ls' := [(0, .ref 0), (1, .int (nI (rf_nat a))), (2, .int (nI (rf_nat b))), (3, .int (nI 0))]) C dX11_meets_7 (by decide) rfl ?_
  have L8 : ∀ (j8 i8 : Nat), i8 + j8 = 145 → (hno : ∀ j, j < i8 → (fun n => decide (rf_pl2 w (rf_nat a) (nI n) = rf_pl2 w (rf_nat b) (nI n))) j = false) → am_G X (am_VV ad) (3, 18) 8 [(0, .ref 0), (1, .int (nI (rf_nat a))), (2, .int (nI (rf_nat b))), (3, .int (nI i8))] [] r h := by
    intro j8
    induction j8 with
    | zero =>
      intro i8 hi8 hno
      obtain rfl : i8 = 145 := by omega
      refine am_iload_n (pc := 8) C dX11_meets_8 rfl ?_
      refine am_sipush (pc := 9) (v := nI 144) C dX11_meets_9 (by decide) ?_
      refine am_icmp_gtN (pc := 12) (tgt := 55) C dX11_meets_12 (by decide) (by omega) (by omega) (fun q12 => ?_) (fun q12 => ?_)
      · skip
        refine am_iconst (pc := 55) (v := -1) C dX11_meets_55 rfl ?_
        have K9 : rf_c_meets w a b = 0 := (show rf_c_meets w a b = 0 from by simp only [rf_c_meets, rf_cb, f3_0, f3_1, f3_2, Bool.not_true, Bool.not_false, cond_true, cond_false])
        have A9 : rf_a_meets w a b = (-1) := (rf_sea_none (p := (fun n => decide (rf_pl2 w (rf_nat a) (nI n) = rf_pl2 w (rf_nat b) (nI n)))) 145 0 (fun i _ hi => hno i (by omega)))
        exact am_iret T dX11_meets_56 rfl rfl (Nat.le_of_ble_eq_true rfl) (Nat.le_of_ble_eq_true rfl) ⟨K9, by rw [A9], ⟨rfl, (fun _ _ => rfl)⟩⟩
      · skip
        exact absurd q12 (by omega)
    | succ j8 ih8 =>
      intro i8 hi8 hno
      have hl8 : i8 < 145 := by omega
      refine am_iload_n (pc := 8) C dX11_meets_8 rfl ?_
      refine am_sipush (pc := 9) (v := nI 144) C dX11_meets_9 (by decide) ?_
      refine am_icmp_gtN (pc := 12) (tgt := 55) C dX11_meets_12 (by decide) (by omega) (by omega) (fun q12 => ?_) (fun q12 => ?_)
      · skip
        exact absurd q12 (by omega)
      · skip
        refine am_aload_n (pc := 15) C dX11_meets_15 rfl ?_
        refine am_getR (pc := 16) (j := 3) C dX11_meets_16 f11_27 bn_0 sh_0 (rf_0_1 hR) ?_
        refine am_iload_n (pc := 19) C dX11_meets_19 rfl ?_
        refine am_iload_n (pc := 20) C dX11_meets_20 rfl ?_
        refine am_callVi (Y := mX10_placeIn) (pc := 21) (st := []) (As := [.int (nI (rf_nat a)), .int (nI i8)]) (x := (rf_pl2 w (rf_nat a) (nI i8))) (h2 := h) C dX11_meets_21 k11_238 v_X10_placeIn rfl rfl bn_3 sh_3 ⟨by decide, rfl⟩ (by decide) (Nat.le_of_ble_eq_true rfl) (Nat.le_of_ble_eq_true rfl) (Nat.le_of_ble_eq_true rfl) (c_X10_placeIn hR (rf_nat a) (nI i8) w hV hLo hSc (show (rf_nat a) < rf_S w from by omega)) ?_
        refine am_aload_n (pc := 24) C dX11_meets_24 rfl ?_
        refine am_getR (pc := 25) (j := 3) C dX11_meets_25 f11_27 bn_0 sh_0 (rf_0_1 hR) ?_
        refine am_iload_n (pc := 28) C dX11_meets_28 rfl ?_
        refine am_iload_n (pc := 29) C dX11_meets_29 rfl ?_
        refine am_callVi (Y := mX10_placeIn) (pc := 30) (st := [.int (rf_pl2 w (rf_nat a) (nI i8))]) (As := [.int (nI (rf_nat b)), .int (nI i8)]) (x := (rf_pl2 w (rf_nat b) (nI i8))) (h2 := h) C dX11_meets_30 k11_238 v_X10_placeIn rfl rfl bn_3 sh_3 ⟨by decide, rfl⟩ (by decide) (Nat.le_of_ble_eq_true rfl) (Nat.le_of_ble_eq_true rfl) (Nat.le_of_ble_eq_true rfl) (c_X10_placeIn hR (rf_nat b) (nI i8) w hV hLo hSc (show (rf_nat b) < rf_S w from by omega)) ?_
        refine am_icmp_ne (pc := 33) (tgt := 49) C dX11_meets_33 (by decide) (fun q33 => ?_) (fun q33 => ?_)
        · skip
          refine am_iincN (pc := 49) (ls' := [(0, .ref 0), (1, .int (nI (rf_nat a))), (2, .int (nI (rf_nat b))), (3, .int (nI (i8 + 1)))]) C dX11_meets_49 rfl (am_up1 _) (by decide) rfl ?_
          refine am_goto (pc := 52) (tgt := 8) C dX11_meets_52 (by decide) ?_
          exact ih8 (i8 + 1) (by omega) (fun j hj => if e : j = i8 then (by rw [e]; exact decide_eq_false q33) else hno j (by omega))
        · skip
          refine am_aload_n (pc := 36) C dX11_meets_36 rfl ?_
          refine am_getR (pc := 37) (j := 3) C dX11_meets_37 f11_27 bn_0 sh_0 (rf_0_1 hR) ?_
          refine am_getR (pc := 40) (j := 25) C dX11_meets_40 f11_177 bn_3 sh_3 (rf_3_2 hR) ?_
          refine am_getI (pc := 43) C dX11_meets_43 f11_441 bn_25 sh_25 ?_
          refine am_top (show ((h 25) 0) = (w 5) from hSc.1.1) ?_
          refine am_iload_n (pc := 46) C dX11_meets_46 rfl ?_
          refine am_iadd (pc := 47) C dX11_meets_47 ?_
          have K9 : rf_c_meets w a b = 0 := (show rf_c_meets w a b = 0 from by simp only [rf_c_meets, rf_cb, f3_0, f3_1, f3_2, Bool.not_true, Bool.not_false, cond_true, cond_false])
          have A9 : rf_a_meets w a b = ((w 5) + (nI i8)) := (cl_sea_at (p := (fun n => decide (rf_pl2 w (rf_nat a) (nI n) = rf_pl2 w (rf_nat b) (nI n)))) 145 0 i8 (Nat.zero_le _) (by omega) (fun j _ hj => hno j hj) (decide_eq_true q33))
          exact am_iret T dX11_meets_48 rfl rfl (Nat.le_of_ble_eq_true rfl) (Nat.le_of_ble_eq_true rfl) ⟨K9, by rw [A9], ⟨rfl, (fun _ _ => rfl)⟩⟩
  exact L8 145 0 (by omega) (fun j hj => absurd hj (by omega))

set_option maxHeartbeats 400000 in
set_option maxRecDepth 100000 in
theorem c_X11_led {ad : Nat → Nat} {r : am_R} (hR : am_rs r) {h : am_H} (s : Int32) (m : Int32) (w : rf_W) (hV : rf_I w) (hLo : cl_Lo (h) 4 w) (hSc : cl_Sc (h) 25 w) (hB2 : rf_n (w 7) 2147483647)  : am_XM mX11_led 7 2 12 [.ref 0, .int s, .int m] (am_VV ad) r h (ex_ret (rf_c_led w s m) (rf_a_led w s m) (fun r9 h9 => r9 = r ∧ cl_k h h9)) (ex_thr ["java/lang/IndexOutOfBoundsException"] (rf_c_led w s m) (fun r9 h9 => r9 = r ∧ cl_k h h9)) := by
  refine am_XM.of (by decide +kernel) (Nat.le_of_ble_eq_true rfl) (by decide) (fun X C T TX => ?_)
  show am_G X (am_VV ad) (0, 0) 0 [(0, .ref 0), (1, .int s), (2, .int m)] [] r h
  have hM9 : rf_M w < 17 := hV.1.1.2
  have hS9 : rf_S w < 11 := hV.1.2.1.2
  have hO9 : rf_O w < 11 := hV.1.2.2.2
  refine am_aload_n (pc := 0) C dX11_led_0 rfl ?_
  refine am_iload_n (pc := 1) C dX11_led_1 rfl ?_
  refine am_callVXc (Y := mX11_needSoldier) (pc := 2) (st := []) (As := [.int s]) (cz := (1, 6)) C dX11_led_2 k11_194 v_X11_needSoldier rfl rfl bn_0 sh_0 ⟨by decide, rfl⟩ (by decide) (Nat.le_of_ble_eq_true rfl) (Nat.le_of_ble_eq_true rfl) (Nat.le_of_ble_eq_true rfl) (c_X11_needSoldier hR s w hV hLo) rfl (fun E9 r9 h9 hx9 => ?_) (fun v9 r9 h9 hq9 => ?_)
  · obtain ⟨hx9, rfl, rfl⟩ := hx9
    obtain ⟨f2_0, rfl⟩ := hx9
    · exact (TX "java/lang/IndexOutOfBoundsException" r h ⟨0, (show rf_c_led w s m = 1 from by simp only [rf_c_led, rf_cb, f2_0, Bool.not_true, Bool.not_false, cond_true, cond_false]), rfl, ⟨rfl, (fun _ _ => rfl)⟩⟩ (1, 6) 2 [(0, .ref 0), (1, .int s), (2, .int m)] (Nat.le_of_ble_eq_true rfl) (Nat.le_of_ble_eq_true rfl)).1
  obtain ⟨f2_0, rfl, rfl, rfl⟩ := hq9
  show am_G X (am_VV ad) (1, 6) 5 [(0, .ref 0), (1, .int s), (2, .int m)] [] r h
  have nA := rf_okN_n (show rf_S w < 1073741824 by omega) f2_0
  have mA : rf_nat s < rf_S w := nA.2
  refine am_aload_n (pc := 5) C dX11_led_5 rfl ?_
  refine am_iload_n (pc := 6) C dX11_led_6 rfl ?_
  refine am_callVXc (Y := mX11_needMemory) (pc := 7) (st := []) (As := [.int m]) (cz := (2, 12)) C dX11_led_7 k11_150 v_X11_needMemory rfl rfl bn_0 sh_0 ⟨by decide, rfl⟩ (by decide) (Nat.le_of_ble_eq_true rfl) (Nat.le_of_ble_eq_true rfl) (Nat.le_of_ble_eq_true rfl) (c_X11_needMemory hR m w hV hLo) rfl (fun E9 r9 h9 hx9 => ?_) (fun v9 r9 h9 hq9 => ?_)
  · obtain ⟨hx9, rfl, rfl⟩ := hx9
    obtain ⟨f7_0, rfl⟩ := hx9
    · exact (TX "java/lang/IndexOutOfBoundsException" r h ⟨0, (show rf_c_led w s m = 1 from by simp only [rf_c_led, rf_cb, f2_0, f7_0, Bool.not_true, Bool.not_false, cond_true, cond_false]), rfl, ⟨rfl, (fun _ _ => rfl)⟩⟩ (2, 12) 7 [(0, .ref 0), (1, .int s), (2, .int m)] (Nat.le_of_ble_eq_true rfl) (Nat.le_of_ble_eq_true rfl)).1
  obtain ⟨f7_0, rfl, rfl, rfl⟩ := hq9
  show am_G X (am_VV ad) (2, 12) 10 [(0, .ref 0), (1, .int s), (2, .int m)] [] r h
  have nB := rf_okN_n (show rf_M w < 1073741824 by omega) f7_0
  have mB : rf_nat m < rf_M w := nB.2
  refine am_lsv (ls' := [(0, .ref 0), (1, .int (nI (rf_nat s))), (2, .int m)]) (congrArg (fun z9 : Int32 => ([(0, .ref 0), (1, Value.int z9), (2, .int m)] : List (Nat × Value))) (show s = (nI (rf_nat s)) from nA.1)) ?_
  refine am_lsv (ls' := [(0, .ref 0), (1, .int (nI (rf_nat s))), (2, .int (nI (rf_nat m)))]) (congrArg (fun z9 : Int32 => ([(0, .ref 0), (1, .int (nI (rf_nat s))), (2, Value.int z9)] : List (Nat × Value))) (show m = (nI (rf_nat m)) from nB.1)) ?_
  refine am_aload_n (pc := 10) C dX11_led_10 rfl ?_
  refine am_getR (pc := 11) (j := 3) C dX11_led_11 f11_27 bn_0 sh_0 (rf_0_1 hR) ?_
  refine am_getR (pc := 14) (j := 25) C dX11_led_14 f11_177 bn_3 sh_3 (rf_3_2 hR) ?_
  refine am_iload_n (pc := 17) C dX11_led_17 rfl ?_
  refine am_iload_n (pc := 18) C dX11_led_18 rfl ?_
  refine am_callVi (Y := mX5_agoLost) (pc := 19) (st := []) (As := [.int (nI (rf_nat s)), .int (nI (rf_nat m))]) (x := (rf_sea (fun n => decide (rf_log w n 2 = nI (rf_nat s)) && decide (rf_log w n 3 = nI (rf_nat m))) (fun n => nI n) (rf_G w) 0)) (h2 := h) C dX11_led_19 k11_464 v_X5_agoLost rfl rfl bn_25 sh_25 ⟨by decide, rfl⟩ (by decide) (Nat.le_of_ble_eq_true rfl) (Nat.le_of_ble_eq_true rfl) (Nat.le_of_ble_eq_true rfl) (c_X5_agoLost hR (rf_nat s) (rf_nat m) w hV hSc (show rf_n (w 7) 2147483647 from hB2) (show (rf_nat s) < 11 from (by omega)) (show (rf_nat m) < 17 from (by omega))) ?_
  have K9 : rf_c_led w s m = 0 := (show rf_c_led w s m = 0 from by simp only [rf_c_led, rf_cb, f2_0, f7_0, Bool.not_true, Bool.not_false, cond_true, cond_false])
  have A9 : rf_a_led w s m = (rf_sea (fun n => decide (rf_log w n 2 = nI (rf_nat s)) && decide (rf_log w n 3 = nI (rf_nat m))) (fun n => nI n) (rf_G w) 0) := rfl
  exact am_iret T dX11_led_22 rfl rfl (Nat.le_of_ble_eq_true rfl) (Nat.le_of_ble_eq_true rfl) ⟨K9, by rw [A9], ⟨rfl, (fun _ _ => rfl)⟩⟩

set_option maxHeartbeats 400000 in
set_option maxRecDepth 100000 in
theorem c_X11_log {ad : Nat → Nat} {r : am_R} (hR : am_rs r) {h : am_H} (a : Int32) (what : Int32) (w : rf_W) (hV : rf_I w) (hLo : cl_Lo (h) 4 w) (hSc : cl_Sc (h) 25 w) (hB2 : rf_n (w 7) 2147483647)  : am_XM mX11_log 7 1 6 [.ref 0, .int a, .int what] (am_VV ad) r h (ex_ret (rf_c_log w a what) (rf_a_log w a what) (fun r9 h9 => r9 = r ∧ cl_k h h9)) (ex_thr ["java/util/NoSuchElementException"] (rf_c_log w a what) (fun r9 h9 => r9 = r ∧ cl_k h h9)) := by
  refine am_XM.of (by decide +kernel) (Nat.le_of_ble_eq_true rfl) (by decide) (fun X C T TX => ?_)
  show am_G X (am_VV ad) (0, 0) 0 [(0, .ref 0), (1, .int a), (2, .int what)] [] r h
  have hM9 : rf_M w < 17 := hV.1.1.2
  have hS9 : rf_S w < 11 := hV.1.2.1.2
  have hO9 : rf_O w < 11 := hV.1.2.2.2
  refine am_iload_n (pc := 0) C dX11_log_0 rfl ?_
  refine am_if_lt (pc := 1) (tgt := 9) C dX11_log_1 (by decide) (fun q1 => ?_) (fun q1 => ?_)
  · skip
    exact (TX "java/util/NoSuchElementException" r h ⟨0, (show rf_c_log w a what = 1 from by simp only [rf_c_log, rf_cb, (rf_in_lt (l := nI 0) (h := nI 4) q1), Bool.not_true, Bool.not_false, cond_true, cond_false]), rfl, ⟨rfl, (fun _ _ => rfl)⟩⟩ (0, 0) 9 [(0, .ref 0), (1, .int a), (2, .int what)] (Nat.le_of_ble_eq_true rfl) (Nat.le_of_ble_eq_true rfl)).2 (Nat.le_of_ble_eq_true rfl) (Nat.le_of_ble_eq_true rfl) ⟨rfl, 189, 444, 193, 45, 16, "a row of the log has no such thing", ex_ok_NS, ⟨List.mem_of_getElem? (i := 46) rfl, by decide⟩, dX11_log_9, dX11_log_12, Or.inr ⟨dX11_log_13, rfl⟩, dX11_log_16, dX11_log_19⟩ [] (by decide)
  · skip
    refine am_iload_n (pc := 4) C dX11_log_4 rfl ?_
    refine am_iconstN (pc := 5) (k := 4) C dX11_log_5 ?_
    refine am_icmp_le (pc := 6) (tgt := 20) C dX11_log_6 (by decide) (fun q6 => ?_) (fun q6 => ?_)
    · skip
      refine am_aload_n (pc := 20) C dX11_log_20 rfl ?_
      refine am_getR (pc := 21) (j := 3) C dX11_log_21 f11_27 bn_0 sh_0 (rf_0_1 hR) ?_
      refine am_getR (pc := 24) (j := 25) C dX11_log_24 f11_177 bn_3 sh_3 (rf_3_2 hR) ?_
      refine am_iload_n (pc := 27) C dX11_log_27 rfl ?_
      refine am_callVi (Y := mX5_rowAgo) (pc := 28) (st := []) (As := [.int a]) (x := (rf_row w a)) (h2 := h) C dX11_log_28 k11_446 v_X5_rowAgo rfl rfl bn_25 sh_25 ⟨by decide, rfl⟩ (by decide) (Nat.le_of_ble_eq_true rfl) (Nat.le_of_ble_eq_true rfl) (Nat.le_of_ble_eq_true rfl) (c_X5_rowAgo hR a w hV hSc hB2) ?_
      refine am_istore_n (pc := 31) (ls' := [(0, .ref 0), (1, .int a), (2, .int what), (3, .int (rf_row w a))]) C dX11_log_31 (by decide) rfl ?_
      refine am_iload_n (pc := 32) C dX11_log_32 rfl ?_
      refine am_iconst (pc := 33) (v := -1) C dX11_log_33 rfl ?_
      refine am_icmp_ne (pc := 34) (tgt := 39) C dX11_log_34 (by decide) (fun q34 => ?_) (fun q34 => ?_)
      · skip
        have R9 := cl_row_ne hV q34
        have m9 : rf_nat a < rf_G w := R9.2.1
        have hr9 : cl_row w (rf_nat a) < 60 := R9.2.2.2
        have LG9 := hSc.2.2.2.2 (rf_nat a) m9
        refine am_lsv (ls' := [(0, .ref 0), (1, .int a), (2, .int what), (3, .int (nI (cl_row w (rf_nat a))))]) (congrArg (fun z9 : Int32 => ([(0, .ref 0), (1, .int a), (2, .int what), (3, Value.int z9)] : List (Nat × Value))) (show (rf_row w a) = (nI (cl_row w (rf_nat a))) from R9.2.2.1)) ?_
        refine am_iload_n (pc := 39) C dX11_log_39 rfl ?_
        by_cases e40_0 : what = nI 0
        · refine am_tableIn (pc := 40) (tgt := 72) C dX11_log_40 (by rw [e40_0]; decide) (by rw [e40_0]; decide) (by rw [e40_0]; rfl) (by decide) ?_
          refine am_aload_n (pc := 72) C dX11_log_72 rfl ?_
          refine am_getR (pc := 73) (j := 3) C dX11_log_73 f11_27 bn_0 sh_0 (rf_0_1 hR) ?_
          refine am_getR (pc := 76) (j := 25) C dX11_log_76 f11_177 bn_3 sh_3 (rf_3_2 hR) ?_
          refine am_getR (pc := 79) (j := 35) C dX11_log_79 f11_449 bn_25 sh_25 (rf_25_14 hR) ?_
          refine am_iload_n (pc := 82) C dX11_log_82 rfl ?_
          refine am_callSi (Y := mX11_pick) (pc := 83) (st := []) (As := [.ref 35, .int (nI (cl_row w (rf_nat a)))]) (x := ((h 35) (cl_row w (rf_nat a)))) (h2 := h) C dX11_log_83 k11_157 v_X11_pick rfl rfl (by decide) (Nat.le_of_ble_eq_true rfl) (Nat.le_of_ble_eq_true rfl) (Nat.le_of_ble_eq_true rfl) (c_X11_pick 35 (cl_row w (rf_nat a)) 60 bn_35 sh_35 (show cl_row w (rf_nat a) < 60 from by omega) (by decide)) ?_
          refine am_top (show ((h 35) (cl_row w (rf_nat a))) = (rf_log w (rf_nat a) 0) from LG9.1) ?_
          have K9 : rf_c_log w a what = 0 := (show rf_c_log w a what = 0 from by simp only [rf_c_log, rf_cb, (rf_in_ok (l := nI 0) (h := nI 4) q1 (Int32.not_lt.mpr q6)), Bool.not_true, Bool.not_false, cond_true, cond_false])
          have A9 : rf_a_log w a what = (rf_log w (rf_nat a) 0) := (by rw [rf_a_log, R9.1, e40_0, rf_nat_nI (by decide)]; rfl)
          exact am_iret T dX11_log_86 rfl rfl (Nat.le_of_ble_eq_true rfl) (Nat.le_of_ble_eq_true rfl) ⟨K9, by rw [A9], ⟨rfl, (fun _ _ => rfl)⟩⟩
        by_cases e40_1 : what = nI 1
        · refine am_tableIn (pc := 40) (tgt := 87) C dX11_log_40 (by rw [e40_1]; decide) (by rw [e40_1]; decide) (by rw [e40_1]; rfl) (by decide) ?_
          refine am_aload_n (pc := 87) C dX11_log_87 rfl ?_
          refine am_getR (pc := 88) (j := 3) C dX11_log_88 f11_27 bn_0 sh_0 (rf_0_1 hR) ?_
          refine am_getR (pc := 91) (j := 25) C dX11_log_91 f11_177 bn_3 sh_3 (rf_3_2 hR) ?_
          refine am_getR (pc := 94) (j := 36) C dX11_log_94 f11_452 bn_25 sh_25 (rf_25_15 hR) ?_
          refine am_iload_n (pc := 97) C dX11_log_97 rfl ?_
          refine am_callSi (Y := mX11_pick) (pc := 98) (st := []) (As := [.ref 36, .int (nI (cl_row w (rf_nat a)))]) (x := ((h 36) (cl_row w (rf_nat a)))) (h2 := h) C dX11_log_98 k11_157 v_X11_pick rfl rfl (by decide) (Nat.le_of_ble_eq_true rfl) (Nat.le_of_ble_eq_true rfl) (Nat.le_of_ble_eq_true rfl) (c_X11_pick 36 (cl_row w (rf_nat a)) 60 bn_36 sh_36 (show cl_row w (rf_nat a) < 60 from by omega) (by decide)) ?_
          refine am_top (show ((h 36) (cl_row w (rf_nat a))) = (rf_log w (rf_nat a) 1) from LG9.2.1) ?_
          have K9 : rf_c_log w a what = 0 := (show rf_c_log w a what = 0 from by simp only [rf_c_log, rf_cb, (rf_in_ok (l := nI 0) (h := nI 4) q1 (Int32.not_lt.mpr q6)), Bool.not_true, Bool.not_false, cond_true, cond_false])
          have A9 : rf_a_log w a what = (rf_log w (rf_nat a) 1) := (by rw [rf_a_log, R9.1, e40_1, rf_nat_nI (by decide)]; rfl)
          exact am_iret T dX11_log_101 rfl rfl (Nat.le_of_ble_eq_true rfl) (Nat.le_of_ble_eq_true rfl) ⟨K9, by rw [A9], ⟨rfl, (fun _ _ => rfl)⟩⟩
        by_cases e40_2 : what = nI 2
        · refine am_tableIn (pc := 40) (tgt := 102) C dX11_log_40 (by rw [e40_2]; decide) (by rw [e40_2]; decide) (by rw [e40_2]; rfl) (by decide) ?_
          refine am_aload_n (pc := 102) C dX11_log_102 rfl ?_
          refine am_getR (pc := 103) (j := 3) C dX11_log_103 f11_27 bn_0 sh_0 (rf_0_1 hR) ?_
          refine am_getR (pc := 106) (j := 25) C dX11_log_106 f11_177 bn_3 sh_3 (rf_3_2 hR) ?_
          refine am_getR (pc := 109) (j := 37) C dX11_log_109 f11_455 bn_25 sh_25 (rf_25_16 hR) ?_
          refine am_iload_n (pc := 112) C dX11_log_112 rfl ?_
          refine am_callSi (Y := mX11_pick) (pc := 113) (st := []) (As := [.ref 37, .int (nI (cl_row w (rf_nat a)))]) (x := ((h 37) (cl_row w (rf_nat a)))) (h2 := h) C dX11_log_113 k11_157 v_X11_pick rfl rfl (by decide) (Nat.le_of_ble_eq_true rfl) (Nat.le_of_ble_eq_true rfl) (Nat.le_of_ble_eq_true rfl) (c_X11_pick 37 (cl_row w (rf_nat a)) 60 bn_37 sh_37 (show cl_row w (rf_nat a) < 60 from by omega) (by decide)) ?_
          refine am_top (show ((h 37) (cl_row w (rf_nat a))) = (rf_log w (rf_nat a) 2) from LG9.2.2.1) ?_
          have K9 : rf_c_log w a what = 0 := (show rf_c_log w a what = 0 from by simp only [rf_c_log, rf_cb, (rf_in_ok (l := nI 0) (h := nI 4) q1 (Int32.not_lt.mpr q6)), Bool.not_true, Bool.not_false, cond_true, cond_false])
          have A9 : rf_a_log w a what = (rf_log w (rf_nat a) 2) := (by rw [rf_a_log, R9.1, e40_2, rf_nat_nI (by decide)]; rfl)
          exact am_iret T dX11_log_116 rfl rfl (Nat.le_of_ble_eq_true rfl) (Nat.le_of_ble_eq_true rfl) ⟨K9, by rw [A9], ⟨rfl, (fun _ _ => rfl)⟩⟩
        by_cases e40_3 : what = nI 3
        · refine am_tableIn (pc := 40) (tgt := 117) C dX11_log_40 (by rw [e40_3]; decide) (by rw [e40_3]; decide) (by rw [e40_3]; rfl) (by decide) ?_
          refine am_aload_n (pc := 117) C dX11_log_117 rfl ?_
          refine am_getR (pc := 118) (j := 3) C dX11_log_118 f11_27 bn_0 sh_0 (rf_0_1 hR) ?_
          refine am_getR (pc := 121) (j := 25) C dX11_log_121 f11_177 bn_3 sh_3 (rf_3_2 hR) ?_
          refine am_getR (pc := 124) (j := 38) C dX11_log_124 f11_458 bn_25 sh_25 (rf_25_17 hR) ?_
          refine am_iload_n (pc := 127) C dX11_log_127 rfl ?_
          refine am_callSi (Y := mX11_pick) (pc := 128) (st := []) (As := [.ref 38, .int (nI (cl_row w (rf_nat a)))]) (x := ((h 38) (cl_row w (rf_nat a)))) (h2 := h) C dX11_log_128 k11_157 v_X11_pick rfl rfl (by decide) (Nat.le_of_ble_eq_true rfl) (Nat.le_of_ble_eq_true rfl) (Nat.le_of_ble_eq_true rfl) (c_X11_pick 38 (cl_row w (rf_nat a)) 60 bn_38 sh_38 (show cl_row w (rf_nat a) < 60 from by omega) (by decide)) ?_
          refine am_top (show ((h 38) (cl_row w (rf_nat a))) = (rf_log w (rf_nat a) 3) from LG9.2.2.2.1) ?_
          have K9 : rf_c_log w a what = 0 := (show rf_c_log w a what = 0 from by simp only [rf_c_log, rf_cb, (rf_in_ok (l := nI 0) (h := nI 4) q1 (Int32.not_lt.mpr q6)), Bool.not_true, Bool.not_false, cond_true, cond_false])
          have A9 : rf_a_log w a what = (rf_log w (rf_nat a) 3) := (by rw [rf_a_log, R9.1, e40_3, rf_nat_nI (by decide)]; rfl)
          exact am_iret T dX11_log_131 rfl rfl (Nat.le_of_ble_eq_true rfl) (Nat.le_of_ble_eq_true rfl) ⟨K9, by rw [A9], ⟨rfl, (fun _ _ => rfl)⟩⟩
        refine am_tableOut (pc := 40) (tgt := 132) C dX11_log_40 (am_tabD 0 3 (by decide) (fun k h1 h2 => by rcases (show k = 0 ∨ k = 1 ∨ k = 2 ∨ k = 3 by omega) with rfl | rfl | rfl | rfl <;> assumption)) (by decide) ?_
        refine am_aload_n (pc := 132) C dX11_log_132 rfl ?_
        refine am_getR (pc := 133) (j := 3) C dX11_log_133 f11_27 bn_0 sh_0 (rf_0_1 hR) ?_
        refine am_getR (pc := 136) (j := 25) C dX11_log_136 f11_177 bn_3 sh_3 (rf_3_2 hR) ?_
        refine am_getR (pc := 139) (j := 39) C dX11_log_139 f11_461 bn_25 sh_25 (rf_25_18 hR) ?_
        refine am_iload_n (pc := 142) C dX11_log_142 rfl ?_
        refine am_callSi (Y := mX11_pick) (pc := 143) (st := []) (As := [.ref 39, .int (nI (cl_row w (rf_nat a)))]) (x := ((h 39) (cl_row w (rf_nat a)))) (h2 := h) C dX11_log_143 k11_157 v_X11_pick rfl rfl (by decide) (Nat.le_of_ble_eq_true rfl) (Nat.le_of_ble_eq_true rfl) (Nat.le_of_ble_eq_true rfl) (c_X11_pick 39 (cl_row w (rf_nat a)) 60 bn_39 sh_39 (show cl_row w (rf_nat a) < 60 from by omega) (by decide)) ?_
        refine am_top (show ((h 39) (cl_row w (rf_nat a))) = (rf_log w (rf_nat a) 4) from LG9.2.2.2.2) ?_
        have K9 : rf_c_log w a what = 0 := (show rf_c_log w a what = 0 from by simp only [rf_c_log, rf_cb, (rf_in_ok (l := nI 0) (h := nI 4) q1 (Int32.not_lt.mpr q6)), Bool.not_true, Bool.not_false, cond_true, cond_false])
        have A9 : rf_a_log w a what = (rf_log w (rf_nat a) 4) := (by rw [rf_a_log, R9.1, cl_w4 q1 q6 e40_0 e40_1 e40_2 e40_3, rf_nat_nI (by decide)]; rfl)
        exact am_iret T dX11_log_146 rfl rfl (Nat.le_of_ble_eq_true rfl) (Nat.le_of_ble_eq_true rfl) ⟨K9, by rw [A9], ⟨rfl, (fun _ _ => rfl)⟩⟩
      · skip
        refine am_iconst (pc := 37) (v := -1) C dX11_log_37 rfl ?_
        have K9 : rf_c_log w a what = 0 := (show rf_c_log w a what = 0 from by simp only [rf_c_log, rf_cb, (rf_in_ok (l := nI 0) (h := nI 4) q1 (Int32.not_lt.mpr q6)), Bool.not_true, Bool.not_false, cond_true, cond_false])
        have A9 : rf_a_log w a what = (-1) := (by rw [rf_a_log, cl_row_m1 q34]; rfl)
        exact am_iret T dX11_log_38 rfl rfl (Nat.le_of_ble_eq_true rfl) (Nat.le_of_ble_eq_true rfl) ⟨K9, by rw [A9], ⟨rfl, (fun _ _ => rfl)⟩⟩
    · skip
      exact (TX "java/util/NoSuchElementException" r h ⟨0, (show rf_c_log w a what = 1 from by simp only [rf_c_log, rf_cb, (rf_in_gt (l := nI 0) (h := nI 4) (Int32.not_le.mp q6)), Bool.not_true, Bool.not_false, cond_true, cond_false]), rfl, ⟨rfl, (fun _ _ => rfl)⟩⟩ (0, 0) 9 [(0, .ref 0), (1, .int a), (2, .int what)] (Nat.le_of_ble_eq_true rfl) (Nat.le_of_ble_eq_true rfl)).2 (Nat.le_of_ble_eq_true rfl) (Nat.le_of_ble_eq_true rfl) ⟨rfl, 189, 444, 193, 45, 16, "a row of the log has no such thing", ex_ok_NS, ⟨List.mem_of_getElem? (i := 46) rfl, by decide⟩, dX11_log_9, dX11_log_12, Or.inr ⟨dX11_log_13, rfl⟩, dX11_log_16, dX11_log_19⟩ [] (by decide)

set_option maxHeartbeats 400000 in
set_option maxRecDepth 100000 in
theorem c_X11_rule {ad : Nat → Nat} {r : am_R} (hR : am_rs r) {h : am_H} (s : Int32) (what : Int32) (w : rf_W) (hV : rf_I w) (hLo : cl_Lo (h) 4 w) (hSc : cl_Sc (h) 25 w) (hLw : rf_Lw w) (hLk : rf_Lk w) (hA : cl_La (h) 17 w)  : am_XM mX11_rule 7 2 12 [.ref 0, .int s, .int what] (am_VV ad) r h (ex_ret (rf_c_rule w s what) (rf_a_rule w s what) (fun r9 h9 => r9 = r ∧ cl_k h h9)) (ex_thr ["java/lang/IndexOutOfBoundsException", "java/util/NoSuchElementException"] (rf_c_rule w s what) (fun r9 h9 => r9 = r ∧ cl_k h h9)) := by
  refine am_XM.of (by decide +kernel) (Nat.le_of_ble_eq_true rfl) (by decide) (fun X C T TX => ?_)
  show am_G X (am_VV ad) (0, 0) 0 [(0, .ref 0), (1, .int s), (2, .int what)] [] r h
  have hM9 : rf_M w < 17 := hV.1.1.2
  have hS9 : rf_S w < 11 := hV.1.2.1.2
  have hO9 : rf_O w < 11 := hV.1.2.2.2
  refine am_aload_n (pc := 0) C dX11_rule_0 rfl ?_
  refine am_iload_n (pc := 1) C dX11_rule_1 rfl ?_
  refine am_callVXc (Y := mX11_needSoldier) (pc := 2) (st := []) (As := [.int s]) (cz := (1, 6)) C dX11_rule_2 k11_194 v_X11_needSoldier rfl rfl bn_0 sh_0 ⟨by decide, rfl⟩ (by decide) (Nat.le_of_ble_eq_true rfl) (Nat.le_of_ble_eq_true rfl) (Nat.le_of_ble_eq_true rfl) (c_X11_needSoldier hR s w hV hLo) rfl (fun E9 r9 h9 hx9 => ?_) (fun v9 r9 h9 hq9 => ?_)
  · obtain ⟨hx9, rfl, rfl⟩ := hx9
    obtain ⟨f2_0, rfl⟩ := hx9
    · exact (TX "java/lang/IndexOutOfBoundsException" r h ⟨0, (show rf_c_rule w s what = 1 from by simp only [rf_c_rule, rf_cb, f2_0, Bool.not_true, Bool.not_false, cond_true, cond_false]), rfl, ⟨rfl, (fun _ _ => rfl)⟩⟩ (1, 6) 2 [(0, .ref 0), (1, .int s), (2, .int what)] (Nat.le_of_ble_eq_true rfl) (Nat.le_of_ble_eq_true rfl)).1
  obtain ⟨f2_0, rfl, rfl, rfl⟩ := hq9
  show am_G X (am_VV ad) (1, 6) 5 [(0, .ref 0), (1, .int s), (2, .int what)] [] r h
  have nA := rf_okN_n (show rf_S w < 1073741824 by omega) f2_0
  have mA : rf_nat s < rf_S w := nA.2
  have hle9 := cl_says_le (w := w) (kd := 2) (s := rf_nat s)
  refine am_lsv (ls' := [(0, .ref 0), (1, .int (nI (rf_nat s))), (2, .int what)]) (congrArg (fun z9 : Int32 => ([(0, .ref 0), (1, Value.int z9), (2, .int what)] : List (Nat × Value))) (show s = (nI (rf_nat s)) from nA.1)) ?_
  refine am_iload_n (pc := 5) C dX11_rule_5 rfl ?_
  by_cases e6_0 : what = nI 0
  · refine am_tableIn (pc := 6) (tgt := 36) C dX11_rule_6 (by rw [e6_0]; decide) (by rw [e6_0]; decide) (by rw [e6_0]; rfl) (by decide) ?_
    refine am_aload_n (pc := 36) C dX11_rule_36 rfl ?_
    refine am_getR (pc := 37) (j := 3) C dX11_rule_37 f11_27 bn_0 sh_0 (rf_0_1 hR) ?_
    refine am_iload_n (pc := 40) C dX11_rule_40 rfl ?_
    refine am_iconstN (pc := 41) (k := 0) C dX11_rule_41 ?_
    refine am_callVir (Y := mX10_ruled) (pc := 42) (st := []) (As := [.int (nI (rf_nat s)), .int (nI 0)]) (x := (nI (cl_says w 0 (rf_nat s)))) (PP := fun c9 => cl_fr (h) c9 23 2) C dX11_rule_42 k11_263 v_X10_ruled rfl rfl bn_3 sh_3 ⟨by decide, rfl⟩ (by decide) (Nat.le_of_ble_eq_true rfl) (Nat.le_of_ble_eq_true rfl) (Nat.le_of_ble_eq_true rfl) (c_X10_ruled hR (rf_nat s) 0 w hV hLo hSc (show (rf_nat s) < rf_S w from (by omega)) (show 0 < 3 from (by omega)) (show rf_Lw w from hLw) (show rf_Lk w from hLk) (show cl_La (h) 17 w from hA)) (fun g42_0 hg42_0 => ?_)
    have F42 := hg42_0
    have K9 : rf_c_rule w s what = 0 := (show rf_c_rule w s what = 0 from by simp only [rf_c_rule, rf_cb, f2_0, (show rf_in what (nI 0) (nI 3) = true from by rw [e6_0]; rfl), Bool.not_true, Bool.not_false, cond_true, cond_false])
    have A9 : rf_a_rule w s what = (nI (cl_says w 0 (rf_nat s))) := (by rw [rf_a_rule, e6_0, rf_nat_nI (by decide), cl_says_eq (by decide)]; rfl)
    exact am_iret T dX11_rule_45 rfl rfl (Nat.le_of_ble_eq_true rfl) (Nat.le_of_ble_eq_true rfl) ⟨K9, by rw [A9], ⟨rfl, (fun i h9 => F42 i (by omega))⟩⟩
  by_cases e6_1 : what = nI 1
  · refine am_tableIn (pc := 6) (tgt := 46) C dX11_rule_6 (by rw [e6_1]; decide) (by rw [e6_1]; decide) (by rw [e6_1]; rfl) (by decide) ?_
    refine am_aload_n (pc := 46) C dX11_rule_46 rfl ?_
    refine am_getR (pc := 47) (j := 3) C dX11_rule_47 f11_27 bn_0 sh_0 (rf_0_1 hR) ?_
    refine am_iload_n (pc := 50) C dX11_rule_50 rfl ?_
    refine am_iconstN (pc := 51) (k := 1) C dX11_rule_51 ?_
    refine am_callVir (Y := mX10_ruled) (pc := 52) (st := []) (As := [.int (nI (rf_nat s)), .int (nI 1)]) (x := (nI (cl_says w 1 (rf_nat s)))) (PP := fun c9 => cl_fr (h) c9 23 2) C dX11_rule_52 k11_263 v_X10_ruled rfl rfl bn_3 sh_3 ⟨by decide, rfl⟩ (by decide) (Nat.le_of_ble_eq_true rfl) (Nat.le_of_ble_eq_true rfl) (Nat.le_of_ble_eq_true rfl) (c_X10_ruled hR (rf_nat s) 1 w hV hLo hSc (show (rf_nat s) < rf_S w from (by omega)) (show 1 < 3 from (by omega)) (show rf_Lw w from hLw) (show rf_Lk w from hLk) (show cl_La (h) 17 w from hA)) (fun g52_1 hg52_1 => ?_)
    have F52 := hg52_1
    have K9 : rf_c_rule w s what = 0 := (show rf_c_rule w s what = 0 from by simp only [rf_c_rule, rf_cb, f2_0, (show rf_in what (nI 0) (nI 3) = true from by rw [e6_1]; rfl), Bool.not_true, Bool.not_false, cond_true, cond_false])
    have A9 : rf_a_rule w s what = (nI (cl_says w 1 (rf_nat s))) := (by rw [rf_a_rule, e6_1, rf_nat_nI (by decide), cl_says_eq (by decide)]; rfl)
    exact am_iret T dX11_rule_55 rfl rfl (Nat.le_of_ble_eq_true rfl) (Nat.le_of_ble_eq_true rfl) ⟨K9, by rw [A9], ⟨rfl, (fun i h9 => F52 i (by omega))⟩⟩
  by_cases e6_2 : what = nI 2
  · refine am_tableIn (pc := 6) (tgt := 56) C dX11_rule_6 (by rw [e6_2]; decide) (by rw [e6_2]; decide) (by rw [e6_2]; rfl) (by decide) ?_
    refine am_aload_n (pc := 56) C dX11_rule_56 rfl ?_
    refine am_getR (pc := 57) (j := 3) C dX11_rule_57 f11_27 bn_0 sh_0 (rf_0_1 hR) ?_
    refine am_iload_n (pc := 60) C dX11_rule_60 rfl ?_
    refine am_iconstN (pc := 61) (k := 2) C dX11_rule_61 ?_
    refine am_callVir (Y := mX10_ruled) (pc := 62) (st := []) (As := [.int (nI (rf_nat s)), .int (nI 2)]) (x := (nI (cl_says w 2 (rf_nat s)))) (PP := fun c9 => cl_fr (h) c9 23 2) C dX11_rule_62 k11_263 v_X10_ruled rfl rfl bn_3 sh_3 ⟨by decide, rfl⟩ (by decide) (Nat.le_of_ble_eq_true rfl) (Nat.le_of_ble_eq_true rfl) (Nat.le_of_ble_eq_true rfl) (c_X10_ruled hR (rf_nat s) 2 w hV hLo hSc (show (rf_nat s) < rf_S w from (by omega)) (show 2 < 3 from (by omega)) (show rf_Lw w from hLw) (show rf_Lk w from hLk) (show cl_La (h) 17 w from hA)) (fun g62_2 hg62_2 => ?_)
    have F62 := hg62_2
    refine am_if_leN (pc := 65) (tgt := 72) C dX11_rule_65 (by decide) (by omega) (fun q65 => ?_) (fun q65 => ?_)
    · skip
      refine am_iconstN (pc := 72) (k := 0) C dX11_rule_72 ?_
      have K9 : rf_c_rule w s what = 0 := (show rf_c_rule w s what = 0 from by simp only [rf_c_rule, rf_cb, f2_0, (show rf_in what (nI 0) (nI 3) = true from by rw [e6_2]; rfl), Bool.not_true, Bool.not_false, cond_true, cond_false])
      have A9 : rf_a_rule w s what = (nI 0) := (by rw [rf_a_rule, e6_2, rf_nat_nI (by decide)]; exact congrArg nI (cl_says_20 q65))
      exact am_iret T dX11_rule_73 rfl rfl (Nat.le_of_ble_eq_true rfl) (Nat.le_of_ble_eq_true rfl) ⟨K9, by rw [A9], ⟨rfl, (fun i h9 => F62 i (by omega))⟩⟩
    · skip
      refine am_iconstN (pc := 68) (k := 1) C dX11_rule_68 ?_
      refine am_goto (pc := 69) (tgt := 73) C dX11_rule_69 (by decide) ?_
      have K9 : rf_c_rule w s what = 0 := (show rf_c_rule w s what = 0 from by simp only [rf_c_rule, rf_cb, f2_0, (show rf_in what (nI 0) (nI 3) = true from by rw [e6_2]; rfl), Bool.not_true, Bool.not_false, cond_true, cond_false])
      have A9 : rf_a_rule w s what = (nI 1) := (by rw [rf_a_rule, e6_2, rf_nat_nI (by decide)]; exact congrArg nI (cl_says_21.mp (by omega)))
      exact am_iret T dX11_rule_73 rfl rfl (Nat.le_of_ble_eq_true rfl) (Nat.le_of_ble_eq_true rfl) ⟨K9, by rw [A9], ⟨rfl, (fun i h9 => F62 i (by omega))⟩⟩
  by_cases e6_3 : what = nI 3
  · refine am_tableIn (pc := 6) (tgt := 74) C dX11_rule_6 (by rw [e6_3]; decide) (by rw [e6_3]; decide) (by rw [e6_3]; rfl) (by decide) ?_
    refine am_aload_n (pc := 74) C dX11_rule_74 rfl ?_
    refine am_getR (pc := 75) (j := 3) C dX11_rule_75 f11_27 bn_0 sh_0 (rf_0_1 hR) ?_
    refine am_iload_n (pc := 78) C dX11_rule_78 rfl ?_
    refine am_callVi (Y := mX10_targetOf) (pc := 79) (st := []) (As := [.int (nI (rf_nat s))]) (x := (am_oi (rf_target w (rf_nat s)))) (h2 := h) C dX11_rule_79 k11_266 v_X10_targetOf rfl rfl bn_3 sh_3 ⟨by decide, rfl⟩ (by decide) (Nat.le_of_ble_eq_true rfl) (Nat.le_of_ble_eq_true rfl) (Nat.le_of_ble_eq_true rfl) (c_X10_targetOf hR (rf_nat s) w hV hLo hSc (show (rf_nat s) < rf_S w from by omega)) ?_
    have K9 : rf_c_rule w s what = 0 := (show rf_c_rule w s what = 0 from by simp only [rf_c_rule, rf_cb, f2_0, (show rf_in what (nI 0) (nI 3) = true from by rw [e6_3]; rfl), Bool.not_true, Bool.not_false, cond_true, cond_false])
    have A9 : rf_a_rule w s what = (am_oi (rf_target w (rf_nat s))) := (by rw [rf_a_rule, e6_3, rf_nat_nI (by decide)]; rfl)
    exact am_iret T dX11_rule_82 rfl rfl (Nat.le_of_ble_eq_true rfl) (Nat.le_of_ble_eq_true rfl) ⟨K9, by rw [A9], ⟨rfl, (fun _ _ => rfl)⟩⟩
  refine am_tableOut (pc := 6) (tgt := 83) C dX11_rule_6 (am_tabD 0 3 (by decide) (fun k h1 h2 => by rcases (show k = 0 ∨ k = 1 ∨ k = 2 ∨ k = 3 by omega) with rfl | rfl | rfl | rfl <;> assumption)) (by decide) ?_
  exact (TX "java/util/NoSuchElementException" r h ⟨1, (show rf_c_rule w s what = 2 from by simp only [rf_c_rule, rf_cb, f2_0, (show rf_in what (nI 0) (nI 3) = false from ex_inD (by decide) (fun k hk => by rcases (show k = 0 ∨ k = 1 ∨ k = 2 ∨ k = 3 by omega) with rfl | rfl | rfl | rfl <;> assumption)), Bool.not_true, Bool.not_false, cond_true, cond_false]), rfl, ⟨rfl, (fun _ _ => rfl)⟩⟩ (1, 6) 83 [(0, .ref 0), (1, .int (nI (rf_nat s))), (2, .int what)] (Nat.le_of_ble_eq_true rfl) (Nat.le_of_ble_eq_true rfl)).2 (Nat.le_of_ble_eq_true rfl) (Nat.le_of_ble_eq_true rfl) ⟨rfl, 189, 269, 193, 32, 90, "there is no such rule", ex_ok_NS, ⟨List.mem_of_getElem? (i := 33) rfl, by decide⟩, dX11_rule_83, dX11_rule_86, Or.inr ⟨dX11_rule_87, rfl⟩, dX11_rule_90, dX11_rule_93⟩ [] (by decide)

set_option maxHeartbeats 400000 in
set_option maxRecDepth 100000 in
theorem c_X11_agreed {ad : Nat → Nat} {r : am_R} (hR : am_rs r) {h : am_H}  (w : rf_W) (hV : rf_I w) (hLo : cl_Lo (h) 4 w) (hSc : cl_Sc (h) 25 w)  : am_CM mX11_agreed 7 0 0 [.ref 0] (am_VV ad) r h (am_pr (some (.int (rf_a_agreed w))) r (fun c9 => cl_k (h) c9)) := by
  refine am_CM.of (by decide +kernel) (Nat.le_of_ble_eq_true rfl) (fun X C T => ?_)
  show am_G X (am_VV ad) (0, 0) 0 [(0, .ref 0)] [] r h
  have hM9 : rf_M w < 17 := hV.1.1.2
  have hS9 : rf_S w < 11 := hV.1.2.1.2
  have hO9 : rf_O w < 11 := hV.1.2.2.2
  refine am_aload_n (pc := 0) C dX11_agreed_0 rfl ?_
  refine am_getR (pc := 1) (j := 3) C dX11_agreed_1 f11_27 bn_0 sh_0 (rf_0_1 hR) ?_
  refine am_iconstN (pc := 4) (k := 0) C dX11_agreed_4 ?_
  refine am_callVi (Y := mX10_usableBySide) (pc := 5) (st := []) (As := [.int (nI 0)]) (x := (rf_usableBy w (nI 0))) (h2 := h) C dX11_agreed_5 k11_345 v_X10_usableBySide rfl rfl bn_3 sh_3 ⟨by decide, rfl⟩ (by decide) (Nat.zero_le _) (Nat.zero_le _) (Nat.le_of_ble_eq_true rfl) (c_X10_usableBySide hR (nI 0) w hV hLo hSc) ?_
  refine am_aload_n (pc := 8) C dX11_agreed_8 rfl ?_
  refine am_getR (pc := 9) (j := 3) C dX11_agreed_9 f11_27 bn_0 sh_0 (rf_0_1 hR) ?_
  refine am_iconstN (pc := 12) (k := 1) C dX11_agreed_12 ?_
  refine am_callVi (Y := mX10_usableBySide) (pc := 13) (st := [.int (rf_usableBy w (nI 0))]) (As := [.int (nI 1)]) (x := (rf_usableBy w (nI 1))) (h2 := h) C dX11_agreed_13 k11_345 v_X10_usableBySide rfl rfl bn_3 sh_3 ⟨by decide, rfl⟩ (by decide) (Nat.zero_le _) (Nat.zero_le _) (Nat.le_of_ble_eq_true rfl) (c_X10_usableBySide hR (nI 1) w hV hLo hSc) ?_
  refine am_iand (pc := 16) C dX11_agreed_16 ?_
  exact am_iretir T dX11_agreed_17 rfl (Nat.le_refl _) (Nat.le_refl _) rfl rfl (fun _ _ => rfl)

set_option maxHeartbeats 400000 in
set_option maxRecDepth 100000 in
theorem c_X11_drill {ad : Nat → Nat} {r : am_R} (hR : am_rs r) {h : am_H} (many : Bool) (w : rf_W) (hV : rf_I w) (hLo : cl_Lo (h) 4 w) (hSc : cl_Sc (h) 25 w)  : am_CM mX11_drill 7 0 0 [.ref 0, .int (am_b many)] (am_VV ad) r h (am_pr (some (.int (rf_a_drill w many))) r (fun c9 => cl_k (h) c9)) := by
  refine am_CM.of (by decide +kernel) (Nat.le_of_ble_eq_true rfl) (fun X C T => ?_)
  show am_G X (am_VV ad) (0, 0) 0 [(0, .ref 0), (1, .int (am_b many))] [] r h
  have hM9 : rf_M w < 17 := hV.1.1.2
  have hS9 : rf_S w < 11 := hV.1.2.1.2
  have hO9 : rf_O w < 11 := hV.1.2.2.2
  have dl9 := rf_dl_le (w := w) (rf_O w)
  refine am_aload_n (pc := 0) C dX11_drill_0 rfl ?_
  refine am_getR (pc := 1) (j := 314) C dX11_drill_1 f11_78 bn_0 sh_0 (rf_0_8 hR) ?_
  refine am_callVi (Y := mX6_easiestOrder) (pc := 4) (st := []) (As := []) (x := (am_oi ((rf_dl w (rf_O w)).1))) (h2 := h) C dX11_drill_4 k11_364 v_X6_easiestOrder rfl rfl bn_314 sh_314 ⟨by decide, rfl⟩ (by decide) (Nat.zero_le _) (Nat.zero_le _) (Nat.le_of_ble_eq_true rfl) (c_X6_easiestOrder hR w hV hLo hSc) ?_
  refine am_istore_n (pc := 7) (ls' := [(0, .ref 0), (1, .int (am_b many)), (2, .int (am_oi ((rf_dl w (rf_O w)).1)))]) C dX11_drill_7 (by decide) rfl ?_
  refine am_iload_n (pc := 8) C dX11_drill_8 rfl ?_
  refine am_if_eqB (pc := 9) (tgt := 31) C dX11_drill_9 (by decide) (fun q9 => ?_) (fun q9 => ?_)
  · skip
    refine am_iload_n (pc := 31) C dX11_drill_31 rfl ?_
    exact am_iretir T dX11_drill_32 rfl (Nat.le_refl _) (Nat.le_refl _) (by rw [rf_a_drill, q9]; rfl) rfl (fun _ _ => rfl)
  · skip
    refine am_iload_n (pc := 12) C dX11_drill_12 rfl ?_
    refine am_iconst (pc := 13) (v := -1) C dX11_drill_13 rfl ?_
    refine am_icmp_eqO (pc := 14) (tgt := 31) C dX11_drill_14 (by decide) (by omega) (fun q14 => ?_) (fun q14 => ?_)
    · skip
      refine am_iload_n (pc := 31) C dX11_drill_31 rfl ?_
      exact am_iretir T dX11_drill_32 rfl (Nat.le_refl _) (Nat.le_refl _) (by rw [rf_a_drill, q9]; exact (cl_dl0 q14).symm) rfl (fun _ _ => rfl)
    · skip
      refine am_lsv (ls' := [(0, .ref 0), (1, .int (am_b many)), (2, .int (nI ((rf_dl w (rf_O w)).1 - 1)))]) (congrArg (fun z9 : Int32 => ([(0, .ref 0), (1, .int (am_b many)), (2, Value.int z9)] : List (Nat × Value))) (show (am_oi ((rf_dl w (rf_O w)).1)) = (nI ((rf_dl w (rf_O w)).1 - 1)) from (cl_oiN (by omega)))) ?_
      refine am_aload_n (pc := 17) C dX11_drill_17 rfl ?_
      refine am_getR (pc := 18) (j := 3) C dX11_drill_18 f11_27 bn_0 sh_0 (rf_0_1 hR) ?_
      refine am_getR (pc := 21) (j := 4) C dX11_drill_21 f11_31 bn_3 sh_3 (rf_3_0 hR) ?_
      refine am_iload_n (pc := 24) C dX11_drill_24 rfl ?_
      refine am_callVi (Y := mX3_neededInAll) (pc := 25) (st := []) (As := [.int (nI ((rf_dl w (rf_O w)).1 - 1))]) (x := (rf_pc (rf_bearsAll w (rf_ord w ((rf_dl w (rf_O w)).1 - 1) 1)))) (h2 := h) C dX11_drill_25 k11_258 v_X3_neededInAll rfl rfl bn_4 sh_4 ⟨by decide, rfl⟩ (by decide) (Nat.zero_le _) (Nat.zero_le _) (Nat.le_of_ble_eq_true rfl) (c_X3_neededInAll hR ((rf_dl w (rf_O w)).1 - 1) w hV hLo (show ((rf_dl w (rf_O w)).1 - 1) < rf_O w from by omega)) ?_
      refine am_goto (pc := 28) (tgt := 32) C dX11_drill_28 (by decide) ?_
      exact am_iretir T dX11_drill_32 rfl (Nat.le_refl _) (Nat.le_refl _) (by rw [rf_a_drill, q9]; exact (cl_dlE (rf_O w) (by omega)).symm) rfl (fun _ _ => rfl)

set_option maxHeartbeats 400000 in
set_option maxRecDepth 100000 in
theorem c_X11_treaty {ad : Nat → Nat} {r : am_R} (hR : am_rs r) {h : am_H} (x : Int32) (undone : Bool) (w : rf_W) (hV : rf_I w) (hLo : cl_Lo (h) 4 w) (hSc : cl_Sc (h) 25 w)  : am_CM mX11_treaty 7 0 0 [.ref 0, .int x, .int (am_b undone)] (am_VV ad) r h (am_pr (some (.int (rf_a_treaty w x undone))) r (fun c9 => cl_k (h) c9)) := by
  refine am_CM.of (by decide +kernel) (Nat.le_of_ble_eq_true rfl) (fun X C T => ?_)
  show am_G X (am_VV ad) (0, 0) 0 [(0, .ref 0), (1, .int x), (2, .int (am_b undone))] [] r h
  have hM9 : rf_M w < 17 := hV.1.1.2
  have hS9 : rf_S w < 11 := hV.1.2.1.2
  have hO9 : rf_O w < 11 := hV.1.2.2.2
  refine am_iload_n (pc := 0) C dX11_treaty_0 rfl ?_
  refine am_aload_n (pc := 1) C dX11_treaty_1 rfl ?_
  refine am_getR (pc := 2) (j := 3) C dX11_treaty_2 f11_27 bn_0 sh_0 (rf_0_1 hR) ?_
  refine am_getR (pc := 5) (j := 4) C dX11_treaty_5 f11_31 bn_3 sh_3 (rf_3_0 hR) ?_
  refine am_callVi (Y := mX3_allMemories) (pc := 8) (st := [.int x]) (As := []) (x := ((nI 1 <<< (nI (rf_M w) &&& 31)) - nI 1)) (h2 := h) C dX11_treaty_8 k11_397 v_X3_allMemories rfl rfl bn_4 sh_4 ⟨by decide, rfl⟩ (by decide) (Nat.zero_le _) (Nat.zero_le _) (Nat.le_of_ble_eq_true rfl) (c_X3_allMemories hR w hV hLo) ?_
  refine am_iand (pc := 11) C dX11_treaty_11 ?_
  refine am_istore_n (pc := 12) (ls' := [(0, .ref 0), (1, .int x), (2, .int (am_b undone)), (3, .int (x &&& ((nI 1 <<< (nI (rf_M w) &&& 31)) - nI 1)))]) C dX11_treaty_12 (by decide) rfl ?_
  refine am_iload_n (pc := 13) C dX11_treaty_13 rfl ?_
  refine am_if_eqB (pc := 14) (tgt := 26) C dX11_treaty_14 (by decide) (fun q14 => ?_) (fun q14 => ?_)
  · skip
    refine am_iload_n (pc := 26) C dX11_treaty_26 rfl ?_
    refine am_aload_n (pc := 27) C dX11_treaty_27 rfl ?_
    refine am_getR (pc := 28) (j := 3) C dX11_treaty_28 f11_27 bn_0 sh_0 (rf_0_1 hR) ?_
    refine am_iconstN (pc := 31) (k := 0) C dX11_treaty_31 ?_
    refine am_callVi (Y := mX10_usableBySide) (pc := 32) (st := [.int (x &&& ((nI 1 <<< (nI (rf_M w) &&& 31)) - nI 1))]) (As := [.int (nI 0)]) (x := (rf_usableBy w (nI 0))) (h2 := h) C dX11_treaty_32 k11_345 v_X10_usableBySide rfl rfl bn_3 sh_3 ⟨by decide, rfl⟩ (by decide) (Nat.zero_le _) (Nat.zero_le _) (Nat.le_of_ble_eq_true rfl) (c_X10_usableBySide hR (nI 0) w hV hLo hSc) ?_
    refine am_aload_n (pc := 35) C dX11_treaty_35 rfl ?_
    refine am_getR (pc := 36) (j := 3) C dX11_treaty_36 f11_27 bn_0 sh_0 (rf_0_1 hR) ?_
    refine am_iconstN (pc := 39) (k := 1) C dX11_treaty_39 ?_
    refine am_callVi (Y := mX10_usableBySide) (pc := 40) (st := [.int (rf_usableBy w (nI 0)), .int (x &&& ((nI 1 <<< (nI (rf_M w) &&& 31)) - nI 1))]) (As := [.int (nI 1)]) (x := (rf_usableBy w (nI 1))) (h2 := h) C dX11_treaty_40 k11_345 v_X10_usableBySide rfl rfl bn_3 sh_3 ⟨by decide, rfl⟩ (by decide) (Nat.zero_le _) (Nat.zero_le _) (Nat.le_of_ble_eq_true rfl) (c_X10_usableBySide hR (nI 1) w hV hLo hSc) ?_
    refine am_iand (pc := 43) C dX11_treaty_43 ?_
    refine am_iconst (pc := 44) (v := -1) C dX11_treaty_44 rfl ?_
    refine am_ixor (pc := 45) C dX11_treaty_45 ?_
    refine am_iand (pc := 46) C dX11_treaty_46 ?_
    refine am_istore (pc := 47) (ls' := [(0, .ref 0), (1, .int x), (2, .int (am_b undone)), (3, .int (x &&& ((nI 1 <<< (nI (rf_M w) &&& 31)) - nI 1))), (4, .int ((x &&& ((nI 1 <<< (nI (rf_M w) &&& 31)) - nI 1)) &&& (((rf_usableBy w (nI 0)) &&& (rf_usableBy w (nI 1))) ^^^ (-1))))]) C dX11_treaty_47 (by decide) rfl ?_
    refine am_iload (pc := 49) C dX11_treaty_49 rfl ?_
    refine am_if_ne (pc := 51) (tgt := 58) C dX11_treaty_51 (by decide) (fun q51 => ?_) (fun q51 => ?_)
    · skip
      refine am_iconstN (pc := 58) (k := 0) C dX11_treaty_58 ?_
      exact am_iretir T dX11_treaty_59 rfl (Nat.le_refl _) (Nat.le_refl _) (by rw [rf_a_treaty, q14, (show rf_agrees w = rf_usableBy w (nI 0) &&& rf_usableBy w (nI 1) from rfl), decide_eq_false q51]; rfl) rfl (fun _ _ => rfl)
    · skip
      refine am_iconstN (pc := 54) (k := 1) C dX11_treaty_54 ?_
      refine am_goto (pc := 55) (tgt := 59) C dX11_treaty_55 (by decide) ?_
      exact am_iretir T dX11_treaty_59 rfl (Nat.le_refl _) (Nat.le_refl _) (by rw [rf_a_treaty, q14, (show rf_agrees w = rf_usableBy w (nI 0) &&& rf_usableBy w (nI 1) from rfl), decide_eq_true q51]; rfl) rfl (fun _ _ => rfl)
  · skip
    refine am_aload_n (pc := 17) C dX11_treaty_17 rfl ?_
    refine am_getR (pc := 18) (j := 314) C dX11_treaty_18 f11_78 bn_0 sh_0 (rf_0_8 hR) ?_
    refine am_iload_n (pc := 21) C dX11_treaty_21 rfl ?_
    refine am_callVi (Y := mX6_undoneBy) (pc := 22) (st := []) (As := [.int (x &&& ((nI 1 <<< (nI (rf_M w) &&& 31)) - nI 1))]) (x := (rf_un w (x &&& ((nI 1 <<< (nI (rf_M w) &&& 31)) - nI 1)) (rf_M w))) (h2 := h) C dX11_treaty_22 k11_400 v_X6_undoneBy rfl rfl bn_314 sh_314 ⟨by decide, rfl⟩ (by decide) (Nat.zero_le _) (Nat.zero_le _) (Nat.le_of_ble_eq_true rfl) (c_X6_undoneBy hR (x &&& ((nI 1 <<< (nI (rf_M w) &&& 31)) - nI 1)) w hV hLo hSc) ?_
    exact am_iretir T dX11_treaty_25 rfl (Nat.le_refl _) (Nat.le_refl _) (by rw [rf_a_treaty, q14]; exact rf_un_treaty hV (cl_allLo (by omega))) rfl (fun _ _ => rfl)

set_option maxHeartbeats 400000 in
set_option maxRecDepth 100000 in
theorem c_X11_hitter {ad : Nat → Nat} {r : am_R} (hR : am_rs r) {h : am_H}  (w : rf_W) (hV : rf_I w) (hLo : cl_Lo (h) 4 w) (hSc : cl_Sc (h) 25 w) (hB2 : rf_n (w 7) 2147483647)  : am_CM mX11_hitter 7 0 0 [.ref 0] (am_VV ad) r h (am_pr (some (.int (rf_a_hitter w))) r (fun c9 => cl_k (h) c9)) := by
  refine am_CM.of (by decide +kernel) (Nat.le_of_ble_eq_true rfl) (fun X C T => ?_)
  show am_G X (am_VV ad) (0, 0) 0 [(0, .ref 0)] [] r h
  have hM9 : rf_M w < 17 := hV.1.1.2
  have hS9 : rf_S w < 11 := hV.1.2.1.2
  have hO9 : rf_O w < 11 := hV.1.2.2.2
  refine am_aload_n (pc := 0) C dX11_hitter_0 rfl ?_
  refine am_getR (pc := 1) (j := 314) C dX11_hitter_1 f11_78 bn_0 sh_0 (rf_0_8 hR) ?_
  refine am_callVir (Y := mX6_mostHits) (pc := 4) (st := []) (As := []) (x := (am_oi ((rf_hm w (rf_S w)).1))) (PP := fun c9 => cl_fr (h) c9 315 1) C dX11_hitter_4 k11_467 v_X6_mostHits rfl rfl bn_314 sh_314 ⟨by decide, rfl⟩ (by decide) (Nat.zero_le _) (Nat.zero_le _) (Nat.le_of_ble_eq_true rfl) (c_X6_mostHits hR w hV hLo hSc hB2) (fun g4_0 hg4_0 => ?_)
  have F4 := hg4_0
  exact am_iretir T dX11_hitter_7 rfl (Nat.le_refl _) (Nat.le_refl _) rfl rfl (fun i h9 => F4 i (by omega))

set_option maxHeartbeats 400000 in
set_option maxRecDepth 100000 in
theorem c_X11_fault {ad : Nat → Nat} {r : am_R} (hR : am_rs r) {h : am_H}  (w : rf_W) (hV : rf_I w) (hLo : cl_Lo (h) 4 w) (hSc : cl_Sc (h) 25 w)  : am_CM mX11_fault 7 0 0 [.ref 0] (am_VV ad) r h (am_pr (some (.int ((h 0) 12))) r (fun c9 => cl_k (h) c9)) := by
  refine am_CM.of (by decide +kernel) (Nat.le_of_ble_eq_true rfl) (fun X C T => ?_)
  show am_G X (am_VV ad) (0, 0) 0 [(0, .ref 0)] [] r h
  have hM9 : rf_M w < 17 := hV.1.1.2
  have hS9 : rf_S w < 11 := hV.1.2.1.2
  have hO9 : rf_O w < 11 := hV.1.2.2.2
  refine am_aload_n (pc := 0) C dX11_fault_0 rfl ?_
  refine am_getI (pc := 1) C dX11_fault_1 f11_100 bn_0 sh_0 ?_
  exact am_iretir T dX11_fault_4 rfl (Nat.le_refl _) (Nat.le_refl _) rfl rfl (fun _ _ => rfl)

set_option maxHeartbeats 400000 in
set_option maxRecDepth 100000 in
theorem c_X11_count {ad : Nat → Nat} {r : am_R} (hR : am_rs r) {h : am_H} (what : Int32) (w : rf_W) (hV : rf_I w) (hLo : cl_Lo (h) 4 w) (hSc : cl_Sc (h) 25 w) (hB2 : rf_n (w 7) 2147483647) (hA : cl_La (h) 17 w)  : am_CM mX11_count 7 0 0 [.ref 0, .int what] (am_VV ad) r h (am_pr (some (.int (rf_a_count w ((h 132) 1) what))) r (fun c9 => cl_k (h) c9)) := by
  refine am_CM.of (by decide +kernel) (Nat.le_of_ble_eq_true rfl) (fun X C T => ?_)
  show am_G X (am_VV ad) (0, 0) 0 [(0, .ref 0), (1, .int what)] [] r h
  have hM9 : rf_M w < 17 := hV.1.1.2
  have hS9 : rf_S w < 11 := hV.1.2.1.2
  have hO9 : rf_O w < 11 := hV.1.2.2.2
  have hx4 : rf_n (w 4) 2 := hV.2.2.2.2.1.2.1
  refine am_iload_n (pc := 0) C dX11_count_0 rfl ?_
  by_cases e1_0 : what = nI 0
  · refine am_tableIn (pc := 1) (tgt := 68) C dX11_count_1 (by rw [e1_0]; decide) (by rw [e1_0]; decide) (by rw [e1_0]; rfl) (by decide) ?_
    refine am_aload_n (pc := 68) C dX11_count_68 rfl ?_
    refine am_getR (pc := 69) (j := 3) C dX11_count_69 f11_27 bn_0 sh_0 (rf_0_1 hR) ?_
    refine am_getR (pc := 72) (j := 4) C dX11_count_72 f11_31 bn_3 sh_3 (rf_3_0 hR) ?_
    refine am_getI (pc := 75) C dX11_count_75 f11_474 bn_4 sh_4 ?_
    refine am_top (show ((h 4) 1) = (nI (rf_M w)) from (hLo.1.2.1.trans hV.1.1.1)) ?_
    exact am_iretir T dX11_count_78 rfl (Nat.le_refl _) (Nat.le_refl _) (cl_cn0 e1_0 hV.1.1.1).symm rfl (fun _ _ => rfl)
  by_cases e1_1 : what = nI 1
  · refine am_tableIn (pc := 1) (tgt := 79) C dX11_count_1 (by rw [e1_1]; decide) (by rw [e1_1]; decide) (by rw [e1_1]; rfl) (by decide) ?_
    refine am_aload_n (pc := 79) C dX11_count_79 rfl ?_
    refine am_getR (pc := 80) (j := 3) C dX11_count_80 f11_27 bn_0 sh_0 (rf_0_1 hR) ?_
    refine am_getR (pc := 83) (j := 4) C dX11_count_83 f11_31 bn_3 sh_3 (rf_3_0 hR) ?_
    refine am_getI (pc := 86) C dX11_count_86 f11_477 bn_4 sh_4 ?_
    refine am_top (show ((h 4) 2) = (nI (rf_S w)) from (hLo.1.2.2.1.trans hV.1.2.1.1)) ?_
    exact am_iretir T dX11_count_89 rfl (Nat.le_refl _) (Nat.le_refl _) (cl_cn1 e1_1 hV.1.2.1.1).symm rfl (fun _ _ => rfl)
  by_cases e1_2 : what = nI 2
  · refine am_tableIn (pc := 1) (tgt := 90) C dX11_count_1 (by rw [e1_2]; decide) (by rw [e1_2]; decide) (by rw [e1_2]; rfl) (by decide) ?_
    refine am_aload_n (pc := 90) C dX11_count_90 rfl ?_
    refine am_getR (pc := 91) (j := 3) C dX11_count_91 f11_27 bn_0 sh_0 (rf_0_1 hR) ?_
    refine am_getR (pc := 94) (j := 4) C dX11_count_94 f11_31 bn_3 sh_3 (rf_3_0 hR) ?_
    refine am_getI (pc := 97) C dX11_count_97 f11_244 bn_4 sh_4 ?_
    refine am_top (show ((h 4) 3) = (nI (rf_O w)) from (hLo.1.2.2.2.trans hV.1.2.2.1)) ?_
    exact am_iretir T dX11_count_100 rfl (Nat.le_refl _) (Nat.le_refl _) (cl_cn2 e1_2 hV.1.2.2.1).symm rfl (fun _ _ => rfl)
  by_cases e1_3 : what = nI 3
  · refine am_tableIn (pc := 1) (tgt := 101) C dX11_count_1 (by rw [e1_3]; decide) (by rw [e1_3]; decide) (by rw [e1_3]; rfl) (by decide) ?_
    refine am_aload_n (pc := 101) C dX11_count_101 rfl ?_
    refine am_getR (pc := 102) (j := 3) C dX11_count_102 f11_27 bn_0 sh_0 (rf_0_1 hR) ?_
    refine am_getR (pc := 105) (j := 4) C dX11_count_105 f11_31 bn_3 sh_3 (rf_3_0 hR) ?_
    refine am_getI (pc := 108) C dX11_count_108 f11_129 bn_4 sh_4 ?_
    refine am_top (show ((h 4) 0) = (w 3) from hLo.1.1) ?_
    exact am_iretir T dX11_count_111 rfl (Nat.le_refl _) (Nat.le_refl _) (cl_cnk (k := 3) (by decide) e1_3).symm rfl (fun _ _ => rfl)
  by_cases e1_4 : what = nI 4
  · refine am_tableIn (pc := 1) (tgt := 112) C dX11_count_1 (by rw [e1_4]; decide) (by rw [e1_4]; decide) (by rw [e1_4]; rfl) (by decide) ?_
    refine am_aload_n (pc := 112) C dX11_count_112 rfl ?_
    refine am_getR (pc := 113) (j := 3) C dX11_count_113 f11_27 bn_0 sh_0 (rf_0_1 hR) ?_
    refine am_getR (pc := 116) (j := 17) C dX11_count_116 f11_35 bn_3 sh_3 (rf_3_1 hR) ?_
    refine am_getI (pc := 119) C dX11_count_119 f11_144 bn_17 sh_17 ?_
    exact am_iretir T dX11_count_122 rfl (Nat.le_refl _) (Nat.le_refl _) (by rw [rf_a_count, if_pos e1_4]; exact (cl_cn4 hx4 hA).symm) rfl (fun _ _ => rfl)
  by_cases e1_5 : what = nI 5
  · refine am_tableIn (pc := 1) (tgt := 123) C dX11_count_1 (by rw [e1_5]; decide) (by rw [e1_5]; decide) (by rw [e1_5]; rfl) (by decide) ?_
    refine am_aload_n (pc := 123) C dX11_count_123 rfl ?_
    refine am_getR (pc := 124) (j := 3) C dX11_count_124 f11_27 bn_0 sh_0 (rf_0_1 hR) ?_
    refine am_getR (pc := 127) (j := 25) C dX11_count_127 f11_177 bn_3 sh_3 (rf_3_2 hR) ?_
    refine am_getI (pc := 130) C dX11_count_130 f11_441 bn_25 sh_25 ?_
    refine am_top (show ((h 25) 0) = (w 5) from hSc.1.1) ?_
    exact am_iretir T dX11_count_133 rfl (Nat.le_refl _) (Nat.le_refl _) (cl_cnk (k := 5) (by decide) e1_5).symm rfl (fun _ _ => rfl)
  by_cases e1_6 : what = nI 6
  · refine am_tableIn (pc := 1) (tgt := 134) C dX11_count_1 (by rw [e1_6]; decide) (by rw [e1_6]; decide) (by rw [e1_6]; rfl) (by decide) ?_
    refine am_aload_n (pc := 134) C dX11_count_134 rfl ?_
    refine am_getR (pc := 135) (j := 3) C dX11_count_135 f11_27 bn_0 sh_0 (rf_0_1 hR) ?_
    refine am_getR (pc := 138) (j := 25) C dX11_count_138 f11_177 bn_3 sh_3 (rf_3_2 hR) ?_
    refine am_getI (pc := 141) C dX11_count_141 f11_480 bn_25 sh_25 ?_
    refine am_top (show ((h 25) 4) = (nI (rf_F w)) from (hSc.1.2.2.2.2.trans hV.2.2.2.2.1.2.2.1.1)) ?_
    exact am_iretir T dX11_count_144 rfl (Nat.le_refl _) (Nat.le_refl _) (cl_cn6 e1_6 hV.2.2.2.2.1.2.2.1.1).symm rfl (fun _ _ => rfl)
  by_cases e1_7 : what = nI 7
  · refine am_tableIn (pc := 1) (tgt := 145) C dX11_count_1 (by rw [e1_7]; decide) (by rw [e1_7]; decide) (by rw [e1_7]; rfl) (by decide) ?_
    refine am_aload_n (pc := 145) C dX11_count_145 rfl ?_
    refine am_getR (pc := 146) (j := 3) C dX11_count_146 f11_27 bn_0 sh_0 (rf_0_1 hR) ?_
    refine am_callVi (Y := mX10_knownInAll) (pc := 149) (st := []) (As := []) (x := (nI (rf_ak w (rf_S w)))) (h2 := h) C dX11_count_149 k11_424 v_X10_knownInAll rfl rfl bn_3 sh_3 ⟨by decide, rfl⟩ (by decide) (Nat.zero_le _) (Nat.zero_le _) (Nat.le_of_ble_eq_true rfl) (c_X10_knownInAll hR w hV hLo hSc) ?_
    exact am_iretir T dX11_count_152 rfl (Nat.le_refl _) (Nat.le_refl _) (by rw [rf_a_count, e1_7]; rfl) rfl (fun _ _ => rfl)
  by_cases e1_8 : what = nI 8
  · refine am_tableIn (pc := 1) (tgt := 153) C dX11_count_1 (by rw [e1_8]; decide) (by rw [e1_8]; decide) (by rw [e1_8]; rfl) (by decide) ?_
    refine am_aload_n (pc := 153) C dX11_count_153 rfl ?_
    refine am_getR (pc := 154) (j := 3) C dX11_count_154 f11_27 bn_0 sh_0 (rf_0_1 hR) ?_
    refine am_iconstN (pc := 157) (k := 0) C dX11_count_157 ?_
    refine am_callVi (Y := mX10_usableInAll) (pc := 158) (st := []) (As := [.int (nI 0)]) (x := (rf_ui w (nI 0) (rf_S w))) (h2 := h) C dX11_count_158 k11_427 v_X10_usableInAll rfl rfl bn_3 sh_3 ⟨by decide, rfl⟩ (by decide) (Nat.zero_le _) (Nat.zero_le _) (Nat.le_of_ble_eq_true rfl) (c_X10_usableInAll hR (nI 0) w hV hLo hSc) ?_
    refine am_aload_n (pc := 161) C dX11_count_161 rfl ?_
    refine am_getR (pc := 162) (j := 3) C dX11_count_162 f11_27 bn_0 sh_0 (rf_0_1 hR) ?_
    refine am_iconstN (pc := 165) (k := 1) C dX11_count_165 ?_
    refine am_callVi (Y := mX10_usableInAll) (pc := 166) (st := [.int (rf_ui w (nI 0) (rf_S w))]) (As := [.int (nI 1)]) (x := (rf_ui w (nI 1) (rf_S w))) (h2 := h) C dX11_count_166 k11_427 v_X10_usableInAll rfl rfl bn_3 sh_3 ⟨by decide, rfl⟩ (by decide) (Nat.zero_le _) (Nat.zero_le _) (Nat.le_of_ble_eq_true rfl) (c_X10_usableInAll hR (nI 1) w hV hLo hSc) ?_
    refine am_iadd (pc := 169) C dX11_count_169 ?_
    exact am_iretir T dX11_count_170 rfl (Nat.le_refl _) (Nat.le_refl _) (by rw [rf_a_count, e1_8]; exact (rf_ui_two hV (rf_S w) (Nat.le_refl _))) rfl (fun _ _ => rfl)
  by_cases e1_9 : what = nI 9
  · refine am_tableIn (pc := 1) (tgt := 171) C dX11_count_1 (by rw [e1_9]; decide) (by rw [e1_9]; decide) (by rw [e1_9]; rfl) (by decide) ?_
    refine am_aload_n (pc := 171) C dX11_count_171 rfl ?_
    refine am_getR (pc := 172) (j := 3) C dX11_count_172 f11_27 bn_0 sh_0 (rf_0_1 hR) ?_
    refine am_getR (pc := 175) (j := 25) C dX11_count_175 f11_177 bn_3 sh_3 (rf_3_2 hR) ?_
    refine am_getI (pc := 178) C dX11_count_178 f11_275 bn_25 sh_25 ?_
    refine am_top (show ((h 25) 2) = (w 7) from hSc.1.2.2.1) ?_
    exact am_iretir T dX11_count_181 rfl (Nat.le_refl _) (Nat.le_refl _) (by rw [rf_a_count, e1_9]; rfl) rfl (fun _ _ => rfl)
  by_cases e1_10 : what = nI 10
  · refine am_tableIn (pc := 1) (tgt := 182) C dX11_count_1 (by rw [e1_10]; decide) (by rw [e1_10]; decide) (by rw [e1_10]; rfl) (by decide) ?_
    refine am_aload_n (pc := 182) C dX11_count_182 rfl ?_
    refine am_getR (pc := 183) (j := 3) C dX11_count_183 f11_27 bn_0 sh_0 (rf_0_1 hR) ?_
    refine am_getR (pc := 186) (j := 25) C dX11_count_186 f11_177 bn_3 sh_3 (rf_3_2 hR) ?_
    refine am_getI (pc := 189) C dX11_count_189 f11_483 bn_25 sh_25 ?_
    refine am_top (show ((h 25) 3) = (w 8) from hSc.1.2.2.2.1) ?_
    exact am_iretir T dX11_count_192 rfl (Nat.le_refl _) (Nat.le_refl _) (by rw [rf_a_count, e1_10]; rfl) rfl (fun _ _ => rfl)
  by_cases e1_11 : what = nI 11
  · refine am_tableIn (pc := 1) (tgt := 193) C dX11_count_1 (by rw [e1_11]; decide) (by rw [e1_11]; decide) (by rw [e1_11]; rfl) (by decide) ?_
    refine am_aload_n (pc := 193) C dX11_count_193 rfl ?_
    refine am_getR (pc := 194) (j := 3) C dX11_count_194 f11_27 bn_0 sh_0 (rf_0_1 hR) ?_
    refine am_getR (pc := 197) (j := 25) C dX11_count_197 f11_177 bn_3 sh_3 (rf_3_2 hR) ?_
    refine am_callVi (Y := mX5_rowCount) (pc := 200) (st := []) (As := []) (x := (nI (rf_G w))) (h2 := h) C dX11_count_200 k11_486 v_X5_rowCount rfl rfl bn_25 sh_25 ⟨by decide, rfl⟩ (by decide) (Nat.zero_le _) (Nat.zero_le _) (Nat.le_of_ble_eq_true rfl) (c_X5_rowCount hR w hV hSc hB2) ?_
    exact am_iretir T dX11_count_203 rfl (Nat.le_refl _) (Nat.le_refl _) (by rw [rf_a_count, e1_11]; exact hV.2.2.2.2.1.2.2.2.1.symm) rfl (fun _ _ => rfl)
  by_cases e1_12 : what = nI 12
  · refine am_tableIn (pc := 1) (tgt := 204) C dX11_count_1 (by rw [e1_12]; decide) (by rw [e1_12]; decide) (by rw [e1_12]; rfl) (by decide) ?_
    refine am_aload_n (pc := 204) C dX11_count_204 rfl ?_
    refine am_getR (pc := 205) (j := 132) C dX11_count_205 f11_69 bn_0 sh_0 (rf_0_7 hR) ?_
    refine am_getI (pc := 208) C dX11_count_208 f11_137 bn_132 sh_132 ?_
    exact am_iretir T dX11_count_211 rfl (Nat.le_refl _) (Nat.le_refl _) (by rw [rf_a_count, e1_12]; rfl) rfl (fun _ _ => rfl)
  refine am_tableOut (pc := 1) (tgt := 212) C dX11_count_1 (am_tabD 0 12 (by decide) (fun k h1 h2 => by rcases (show k = 0 ∨ k = 1 ∨ k = 2 ∨ k = 3 ∨ k = 4 ∨ k = 5 ∨ k = 6 ∨ k = 7 ∨ k = 8 ∨ k = 9 ∨ k = 10 ∨ k = 11 ∨ k = 12 by omega) with rfl | rfl | rfl | rfl | rfl | rfl | rfl | rfl | rfl | rfl | rfl | rfl | rfl <;> assumption)) (by decide) ?_
  refine am_iconst (pc := 212) (v := -1) C dX11_count_212 rfl ?_
  exact am_iretir T dX11_count_213 rfl (Nat.le_refl _) (Nat.le_refl _) (cl_cnd e1_0 e1_1 e1_2 e1_3 e1_4 e1_5 e1_6 e1_7 e1_8 e1_9 e1_10 e1_11 e1_12).symm rfl (fun _ _ => rfl)

set_option maxHeartbeats 400000 in
set_option maxRecDepth 100000 in
theorem c_X11_seed {ad : Nat → Nat} {r : am_R} (hR : am_rs r) {h : am_H} (n : Int32) (w : rf_W) (hV : rf_I w) (hLo : cl_Lo (h) 4 w) (hSc : cl_Sc (h) 25 w)  : am_CM mX11_seed 7 0 0 [.ref 0, .int n] (am_VV ad) r h (am_pr (some (.int (w 10))) r (fun c9 => cl_Sc c9 25 (upd w 10 n) ∧ cl_fr (h) c9 25 1)) := by
  refine am_CM.of (by decide +kernel) (Nat.le_of_ble_eq_true rfl) (fun X C T => ?_)
  show am_G X (am_VV ad) (0, 0) 0 [(0, .ref 0), (1, .int n)] [] r h
  have hM9 : rf_M w < 17 := hV.1.1.2
  have hS9 : rf_S w < 11 := hV.1.2.1.2
  have hO9 : rf_O w < 11 := hV.1.2.2.2
  refine am_aload_n (pc := 0) C dX11_seed_0 rfl ?_
  refine am_getR (pc := 1) (j := 3) C dX11_seed_1 f11_27 bn_0 sh_0 (rf_0_1 hR) ?_
  refine am_getR (pc := 4) (j := 25) C dX11_seed_4 f11_177 bn_3 sh_3 (rf_3_2 hR) ?_
  refine am_getI (pc := 7) C dX11_seed_7 f11_430 bn_25 sh_25 ?_
  refine am_top (show ((h 25) 1) = (w 10) from hSc.1.2.1) ?_
  refine am_istore_n (pc := 10) (ls' := [(0, .ref 0), (1, .int n), (2, .int (w 10))]) C dX11_seed_10 (by decide) rfl ?_
  refine am_aload_n (pc := 11) C dX11_seed_11 rfl ?_
  refine am_getR (pc := 12) (j := 3) C dX11_seed_12 f11_27 bn_0 sh_0 (rf_0_1 hR) ?_
  refine am_getR (pc := 15) (j := 25) C dX11_seed_15 f11_177 bn_3 sh_3 (rf_3_2 hR) ?_
  refine am_iload_n (pc := 18) C dX11_seed_18 rfl ?_
  refine am_putI (pc := 19) C dX11_seed_19 f11_430 bn_25 sh_25 rfl rfl ?_
  refine am_hp (show am_up h 25 1 n = am_row h 25 (upd (h 25) 1 n) from am_up_rw _ _ _ _) ?_
  refine am_iload_n (pc := 22) C dX11_seed_22 rfl ?_
  exact am_iretir T dX11_seed_23 rfl (Nat.le_refl _) (Nat.le_refl _) rfl rfl ⟨cl_Sc_num hV hSc (Or.inr (Or.inl ⟨rfl, rfl⟩)) (by rw [am_row_at]) (fun i a b => by rw [am_row_ne _ _ _ (by omega)]), (fun i9 h9 => by rw [am_row_ne _ _ _ (by omega)])⟩

