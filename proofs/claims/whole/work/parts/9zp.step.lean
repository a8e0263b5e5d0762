/-! THE LAW: one call of the script; the loop -/
section LST
theorem lp_and63 (y : Int32) : ∃ k, k < 64 ∧ y &&& nI 63 = nI k := by
  have lo : am_lo (y &&& nI 63) 6 := by
    intro k hk
    rw [am_bt_and]
    by_cases h32 : k < 32
    · have h63 : Nat.testBit 63 k = false := Nat.testBit_lt_two_pow (Nat.lt_of_lt_of_le (by decide : 63 < 2 ^ 6) (Nat.pow_le_pow_right (by decide) hk))
      rw [am_bt_nI h32, h63, Bool.and_false]
    · have h0 : am_bt (nI 63) k = false := BitVec.getLsbD_of_ge _ _ (by omega)
      rw [h0, Bool.and_false]
  have hn := am_lo_n (by decide : 6 ≤ 16) lo
  exact ⟨rf_nat (y &&& nI 63), hn.2, hn.1⟩
set_option maxHeartbeats 1000000 in
set_option maxRecDepth 100000 in
theorem lp_step {X : am_X} {ad : Nat → Nat} {b L i : Nat} {xs : Nat → Int32} {r : am_R} {h : am_H} (Cx : lp_Cx X ad b L xs) (hi : 6 * i + 6 ≤ L) (hR : am_rs r) (R : cl_R r h i) (K : ∀ r1 h1, am_rs r1 → cl_R r1 h1 (i + 1) → am_G X (am_VV ad) (lp_cs (i + 1)) 2798 (lp_ls i) [] r1 h1) : am_G X (am_VV ad) (lp_cs i) 33 (lp_ls i) [] r h := by
  obtain ⟨C, S, hb, hL⟩ := id Cx
  refine am_aload_n (pc := 33) C dL_law__33 rfl ?_
  refine am_iload (pc := 34) C dL_law__34 rfl ?_
  refine lp_ld C S hb hL dL_law__36 (show 6 * i < L by omega) ?_
  refine am_bipush (pc := 37) (v := nI 63) C dL_law__37 (by decide) ?_
  refine am_iand (pc := 39) C dL_law__39 ?_
  obtain ⟨k, hk, ek⟩ := lp_and63 (xs (6 * i))
  rw [ek]
  by_cases e0 : k = 0
  · rw [e0]
    exact am_tableIn (pc := 40) (tgt := 232) C dL_law__40 (by decide) (by decide) rfl (by decide) (lc_feed Cx hi hR R K)
  by_cases e1 : k = 1
  · rw [e1]
    exact am_tableIn (pc := 40) (tgt := 305) C dL_law__40 (by decide) (by decide) rfl (by decide) (lc_end Cx hi hR R K)
  by_cases e2 : k = 2
  · rw [e2]
    exact am_tableIn (pc := 40) (tgt := 330) C dL_law__40 (by decide) (by decide) rfl (by decide) (lc_war Cx hi hR R K)
  by_cases e3 : k = 3
  · rw [e3]
    exact am_tableIn (pc := 40) (tgt := 374) C dL_law__40 (by decide) (by decide) rfl (by decide) (lc_law Cx hi hR R K)
  by_cases e4 : k = 4
  · rw [e4]
    exact am_tableIn (pc := 40) (tgt := 418) C dL_law__40 (by decide) (by decide) rfl (by decide) (lc_fault Cx hi hR R K)
  by_cases e5 : k = 5
  · rw [e5]
    exact am_tableIn (pc := 40) (tgt := 431) C dL_law__40 (by decide) (by decide) rfl (by decide) (lc_memory Cx hi hR R K)
  by_cases e6 : k = 6
  · rw [e6]
    exact am_tableIn (pc := 40) (tgt := 499) C dL_law__40 (by decide) (by decide) rfl (by decide) (lc_soldier Cx hi hR R K)
  by_cases e7 : k = 7
  · rw [e7]
    exact am_tableIn (pc := 40) (tgt := 567) C dL_law__40 (by decide) (by decide) rfl (by decide) (lc_known Cx hi hR R K)
  by_cases e8 : k = 8
  · rw [e8]
    exact am_tableIn (pc := 40) (tgt := 635) C dL_law__40 (by decide) (by decide) rfl (by decide) (lc_place Cx hi hR R K)
  by_cases e9 : k = 9
  · rw [e9]
    exact am_tableIn (pc := 40) (tgt := 703) C dL_law__40 (by decide) (by decide) rfl (by decide) (lc_falls Cx hi hR R K)
  by_cases e10 : k = 10
  · rw [e10]
    exact am_tableIn (pc := 40) (tgt := 771) C dL_law__40 (by decide) (by decide) rfl (by decide) (lc_order Cx hi hR R K)
  by_cases e11 : k = 11
  · rw [e11]
    exact am_tableIn (pc := 40) (tgt := 839) C dL_law__40 (by decide) (by decide) rfl (by decide) (lc_rule Cx hi hR R K)
  by_cases e12 : k = 12
  · rw [e12]
    exact am_tableIn (pc := 40) (tgt := 907) C dL_law__40 (by decide) (by decide) rfl (by decide) (lc_hours Cx hi hR R K)
  by_cases e13 : k = 13
  · rw [e13]
    exact am_tableIn (pc := 40) (tgt := 963) C dL_law__40 (by decide) (by decide) rfl (by decide) (lc_shoot Cx hi hR R K)
  by_cases e14 : k = 14
  · rw [e14]
    exact am_tableIn (pc := 40) (tgt := 1059) C dL_law__40 (by decide) (by decide) rfl (by decide) (lc_teach Cx hi hR R K)
  by_cases e15 : k = 15
  · rw [e15]
    exact am_tableIn (pc := 40) (tgt := 1139) C dL_law__40 (by decide) (by decide) rfl (by decide) (lc_gather Cx hi hR R K)
  by_cases e16 : k = 16
  · rw [e16]
    exact am_tableIn (pc := 40) (tgt := 1207) C dL_law__40 (by decide) (by decide) rfl (by decide) (lc_read Cx hi hR R K)
  by_cases e17 : k = 17
  · rw [e17]
    exact am_tableIn (pc := 40) (tgt := 1263) C dL_law__40 (by decide) (by decide) rfl (by decide) (lc_field Cx hi hR R K)
  by_cases e18 : k = 18
  · rw [e18]
    exact am_tableIn (pc := 40) (tgt := 1331) C dL_law__40 (by decide) (by decide) rfl (by decide) (lc_plan Cx hi hR R K)
  by_cases e19 : k = 19
  · rw [e19]
    exact am_tableIn (pc := 40) (tgt := 1415) C dL_law__40 (by decide) (by decide) rfl (by decide) (lc_shots Cx hi hR R K)
  by_cases e20 : k = 20
  · rw [e20]
    exact am_tableIn (pc := 40) (tgt := 1511) C dL_law__40 (by decide) (by decide) rfl (by decide) (lc_outlasts Cx hi hR R K)
  by_cases e21 : k = 21
  · rw [e21]
    exact am_tableIn (pc := 40) (tgt := 1623) C dL_law__40 (by decide) (by decide) rfl (by decide) (lc_reserves Cx hi hR R K)
  by_cases e22 : k = 22
  · rw [e22]
    exact am_tableIn (pc := 40) (tgt := 1691) C dL_law__40 (by decide) (by decide) rfl (by decide) (lc_company Cx hi hR R K)
  by_cases e23 : k = 23
  · rw [e23]
    exact am_tableIn (pc := 40) (tgt := 1747) C dL_law__40 (by decide) (by decide) rfl (by decide) (lc_drill Cx hi hR R K)
  by_cases e24 : k = 24
  · rw [e24]
    exact am_tableIn (pc := 40) (tgt := 1788) C dL_law__40 (by decide) (by decide) rfl (by decide) (lc_duel Cx hi hR R K)
  by_cases e25 : k = 25
  · rw [e25]
    exact am_tableIn (pc := 40) (tgt := 1856) C dL_law__40 (by decide) (by decide) rfl (by decide) (lc_best Cx hi hR R K)
  by_cases e26 : k = 26
  · rw [e26]
    exact am_tableIn (pc := 40) (tgt := 1924) C dL_law__40 (by decide) (by decide) rfl (by decide) (lc_spread Cx hi hR R K)
  by_cases e27 : k = 27
  · rw [e27]
    exact am_tableIn (pc := 40) (tgt := 2004) C dL_law__40 (by decide) (by decide) rfl (by decide) (lc_soonest Cx hi hR R K)
  by_cases e28 : k = 28
  · rw [e28]
    exact am_tableIn (pc := 40) (tgt := 2072) C dL_law__40 (by decide) (by decide) rfl (by decide) (lc_mute Cx hi hR R K)
  by_cases e29 : k = 29
  · rw [e29]
    exact am_tableIn (pc := 40) (tgt := 2140) C dL_law__40 (by decide) (by decide) rfl (by decide) (lc_amends Cx hi hR R K)
  by_cases e30 : k = 30
  · rw [e30]
    exact am_tableIn (pc := 40) (tgt := 2196) C dL_law__40 (by decide) (by decide) rfl (by decide) (lc_agreed Cx hi hR R K)
  by_cases e31 : k = 31
  · rw [e31]
    exact am_tableIn (pc := 40) (tgt := 2209) C dL_law__40 (by decide) (by decide) rfl (by decide) (lc_treaty Cx hi hR R K)
  by_cases e32 : k = 32
  · rw [e32]
    exact am_tableIn (pc := 40) (tgt := 2262) C dL_law__40 (by decide) (by decide) rfl (by decide) (lc_matches Cx hi hR R K)
  by_cases e33 : k = 33
  · rw [e33]
    exact am_tableIn (pc := 40) (tgt := 2330) C dL_law__40 (by decide) (by decide) rfl (by decide) (lc_trial Cx hi hR R K)
  by_cases e34 : k = 34
  · rw [e34]
    exact am_tableIn (pc := 40) (tgt := 2398) C dL_law__40 (by decide) (by decide) rfl (by decide) (lc_span Cx hi hR R K)
  by_cases e35 : k = 35
  · rw [e35]
    exact am_tableIn (pc := 40) (tgt := 2494) C dL_law__40 (by decide) (by decide) rfl (by decide) (lc_meets Cx hi hR R K)
  by_cases e36 : k = 36
  · rw [e36]
    exact am_tableIn (pc := 40) (tgt := 2562) C dL_law__40 (by decide) (by decide) rfl (by decide) (lc_log Cx hi hR R K)
  by_cases e37 : k = 37
  · rw [e37]
    exact am_tableIn (pc := 40) (tgt := 2630) C dL_law__40 (by decide) (by decide) rfl (by decide) (lc_led Cx hi hR R K)
  by_cases e38 : k = 38
  · rw [e38]
    exact am_tableIn (pc := 40) (tgt := 2698) C dL_law__40 (by decide) (by decide) rfl (by decide) (lc_hitter Cx hi hR R K)
  by_cases e39 : k = 39
  · rw [e39]
    exact am_tableIn (pc := 40) (tgt := 2711) C dL_law__40 (by decide) (by decide) rfl (by decide) (lc_seed Cx hi hR R K)
  by_cases e40 : k = 40
  · rw [e40]
    exact am_tableIn (pc := 40) (tgt := 2736) C dL_law__40 (by decide) (by decide) rfl (by decide) (lc_undo Cx hi hR R K)
  by_cases e41 : k = 41
  · rw [e41]
    exact am_tableIn (pc := 40) (tgt := 2749) C dL_law__40 (by decide) (by decide) rfl (by decide) (lc_image Cx hi hR R K)
  by_cases e42 : k = 42
  · rw [e42]
    exact am_tableIn (pc := 40) (tgt := 2760) C dL_law__40 (by decide) (by decide) rfl (by decide) (lc_back Cx hi hR R K)
  by_cases e43 : k = 43
  · rw [e43]
    exact am_tableIn (pc := 40) (tgt := 2773) C dL_law__40 (by decide) (by decide) rfl (by decide) (lc_count Cx hi hR R K)
  refine am_tableOut (pc := 40) (tgt := 2798) C dL_law__40 (Or.inr (by rw [nI_toInt (by omega)]; omega)) (by decide) ?_
  refine am_widen (cs' := lp_cs (i + 1)) (show 400 + 5 * i ≤ 400 + 5 * (i + 1) by omega) (show 73000 + 30 * i ≤ 73000 + 30 * (i + 1) by omega) ?_
  exact K r h hR (cl_R.k R (fun _ _ _ _ _ _ _ _ _ => rfl) (fun _ _ => rfl))
theorem lp_gt {L k : Nat} (hL : L ≤ 3072) (hk : k ≤ L) : (nI L - nI 6 < nI k) ↔ L < k + 6 := by
  by_cases h6 : 6 ≤ L
  · rw [pk_sub h6, nI_ltI (by omega) (by omega)]
    omega
  · have key : ∀ a, a < 6 → ∀ c, c < 6 → nI a - nI 6 < nI c := by decide +kernel
    exact ⟨fun _ => by omega, fun _ => key L (by omega) k (by omega)⟩
set_option maxHeartbeats 1000000 in
theorem lp_loop {X : am_X} {ad : Nat → Nat} {b L : Nat} {xs : Nat → Int32} (Cx : lp_Cx X ad b L xs) (E : lp_E X lp_MC lp_MS) : ∀ j i, i + j = 513 → 6 * i ≤ L → ∀ r h, am_rs r → cl_R r h i → am_G X (am_VV ad) (lp_cs i) 23 (lp_ls i) [] r h := by
  obtain ⟨C, S, hb, hL⟩ := id Cx
  intro j
  induction j with
  | zero =>
    intro i hij hle
    exact absurd hle (by omega)
  | succ j ih =>
    intro i hij hle r h hR R
    refine am_iload (pc := 23) C dL_law__23 rfl ?_
    refine am_aload_n (pc := 25) C dL_law__25 rfl ?_
    refine lp_len C S hb dL_law__26 ?_
    refine am_bipush (pc := 27) (v := nI 6) C dL_law__27 (by decide) ?_
    refine am_isub (pc := 29) C dL_law__29 ?_
    refine am_icmp_gt (pc := 30) (tgt := 2804) C dL_law__30 (by decide) (fun _ => ?_) (fun q => ?_)
    · refine am_iconst (pc := 2804) (v := 1) C dL_law__2804 rfl ?_
      exact lp_ret E dL_law__2805 (lp_leC (show 400 + 5 * i ≤ 600000 by omega)) (lp_leS (show 73000 + 30 * i ≤ 7000000 by omega))
    · have h6 : 6 * i + 6 ≤ L := Nat.le_of_not_lt (fun z => q ((lp_gt hL hle).mpr z))
      refine lp_step Cx h6 hR R (fun r1 h1 hR1 R1 => ?_)
      have e6 : 6 * (i + 1) = 6 * i + 6 := by omega
      refine am_iincN (pc := 2798) (b := 6 * (i + 1)) (ls' := lp_ls (i + 1)) C dL_law__2798 rfl (by rw [e6]; exact am_upk _ 6) (by decide) rfl ?_
      refine am_goto (pc := 2801) (tgt := 23) C dL_law__2801 (by decide) ?_
      exact ih (i + 1) (by omega) (by omega) r1 h1 hR1 R1
end LST
