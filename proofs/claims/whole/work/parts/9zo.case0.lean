/-! THE LAW's cases: memory, shoot, feed, undo, war, matches -/
section LC
set_option maxHeartbeats 1000000 in
set_option maxRecDepth 100000 in
theorem lc_memory {X : am_X} {ad : Nat → Nat} {b L i : Nat} {xs : Nat → Int32} {r : am_R} {h : am_H} (Cx : lp_Cx X ad b L xs) (hi : 6 * i + 6 ≤ L) (hR : am_rs r) (R : cl_R r h i) (K : ∀ r1 h1, am_rs r1 → cl_R r1 h1 (i + 1) → am_G X (am_VV ad) (lp_cs (i + 1)) 2798 (lp_ls i) [] r1 h1) : am_G X (am_VV ad) (lp_cs i) 431 (lp_ls i) [] r h := by
  obtain ⟨C, S, hb, hL⟩ := id Cx
  have hi2 : i < 512 := by omega
  have hV := R.1.1.1
  have hLo := R.1.2.1
  have hSc := R.1.2.2.1
  refine am_aload_n (pc := 431) C dL_law__431 rfl ?_
  refine lp_arg (pc := 432) (k := 1) Cx hi (by decide) dL_law__432 dL_law__433 dL_law__435 dL_law__436 dL_law__437 rfl rfl ?_
  refine lp_arg (pc := 438) (k := 2) Cx hi (by decide) dL_law__438 dL_law__439 dL_law__441 dL_law__442 dL_law__443 rfl rfl ?_
  refine am_aload_n (pc := 444) C dL_law__444 rfl ?_
  refine lp_cW (Y := mL_memory) (hh := hL_memory) (n := 4) (pc := 445) (st := []) (As := [.ref 0, .int (xs (6 * i + 1)), .int (xs (6 * i + 2)), .ref 335]) (cz := lp_cs (i + 1)) C dL_law__445 kL_152 ⟨by decide, by decide, by decide +kernel⟩ ⟨(am_mem 1129 (by decide +kernel) rfl), (am_mem 139 (by decide +kernel) rfl), by decide⟩ (am_mem 1128 (by decide +kernel) rfl) rfl rfl (by decide) (show 400 + 5 * i + 2 ≤ 400 + 5 * (i + 1) by omega) (show 73000 + 30 * i + 12 ≤ 73000 + 30 * (i + 1) by omega) (lp_leC (show 400 + 5 * (i + 1) ≤ 600000 by omega)) (lp_leS (show 73000 + 30 * (i + 1) ≤ 7000000 by omega)) (Nat.le_of_ble_eq_true rfl) (w_memory (xs (6 * i + 1)) (xs (6 * i + 2)) lp_hP_k (c_X11_memory hR (xs (6 * i + 1)) (xs (6 * i + 2)) (h 323) hV hLo hSc)) (fun y1 r1 h1 ey1 hp ho => ?_)
  obtain ⟨cc, ecc⟩ : ∃ q : Nat, q = rf_c_memory (h 323) (xs (6 * i + 1)) (xs (6 * i + 2)) := ⟨_, rfl⟩
  rw [← ecc] at ey1 ho
  have hcc : cc < 100 := by rw [ecc]; unfold rf_c_memory; exact lp_cbl (by decide) (lp_cbl (by decide) (by decide))
  rw [ey1]
  refine am_istore (pc := 448) (ls' := lp_l5 i (nI cc)) C dL_law__448 (by decide) rfl ?_
  obtain ⟨er, hk⟩ := hp
  have hR1 : am_rs r1 := by rw [er]; exact hR
  have R1 : cl_R r1 h i := by rw [er]; exact R
  have f : ∀ j, 322 ≤ j → j ≠ 335 → h1 j = h j := fun j a b => hk j ⟨Or.inr (by omega), Or.inr (by omega), by omega, Or.inr a, b⟩
  refine am_aload_n (pc := 450) C dL_law__450 rfl ?_
  refine lp_arg (pc := 451) (k := 1) Cx hi (by decide) dL_law__451 dL_law__452 dL_law__454 dL_law__455 dL_law__456 rfl rfl ?_
  refine lp_arg (pc := 457) (k := 2) Cx hi (by decide) dL_law__457 dL_law__458 dL_law__460 dL_law__461 dL_law__462 rfl rfl ?_
  refine lp_cV (Y := mX12_memory) (pc := 463) (st := []) (As := [.int (xs (6 * i + 1)), .int (xs (6 * i + 2))]) C dL_law__463 kL_155 v_X12_memory rfl rfl bn_322 sh_322 ⟨by decide, rfl⟩ (by decide) (lp_leC (show 400 + 5 * (i + 1) ≤ 600000 by omega)) (lp_leS (show 73000 + 30 * (i + 1) ≤ 7000000 by omega)) (Nat.le_of_ble_eq_true rfl) (c_X12_memory hR1 (xs (6 * i + 1)) (xs (6 * i + 2)) (show rf_I (h1 323) by rw [f 323 (by decide) (by decide)]; exact R.1.1.1)) (fun y2 h2 ey2 e2 => ?_)
  refine am_istore (pc := 466) (ls' := lp_l6 i (nI cc) y2) C dL_law__466 (by decide) rfl ?_
  simp only [f 322 (by decide) (by decide), f 323 (by decide) (by decide), f 325 (by decide) (by decide), f 326 (by decide) (by decide), f 327 (by decide) (by decide), f 328 (by decide) (by decide)] at ey2 e2
  rw [← ecc] at ey2 e2
  have F : ∀ j, j ≠ 322 → j ≠ 323 → j ≠ 326 → j ≠ 327 → (j < 330 ∨ 334 < j) → h2 j = h1 j := fun j a b c d k => by rw [e2]; repeat rw [am_row_ne _ _ _ (by omega)]
  have ea : cc = 0 → h2 335 0 = y2 := fun z => by rw [F 335 (by decide) (by decide) (by decide) (by decide) (by decide), ho z, ey2, rf_ga, if_pos z]
  have e322 : h2 322 = rf_oc (h 322) cc := by rw [e2, am_row_at]
  have et : (h2 322) 0 = nI cc := by rw [e322]; exact rf_upd_eq
  have F2 : ∀ j, j ≠ 322 → j < 330 → h2 j = h1 j := fun j a b => by rw [e2]; repeat rw [am_row_ne _ _ _ (by omega)]
  have R2 : cl_R r1 h2 (i + 1) := lp_pure R1 hk (fun j a b _ => F2 j a (by omega)) e322
  refine lp_tail (pc := 468) (c := cc) (a := 0) (u := y2) Cx hR1 hcc dL_law__468 dL_law__469 kL_142 dL_law__472 dL_law__474 dL_law__479 dL_law__481 dL_law__484 dL_law__485 dL_law__486 dL_law__487 dL_law__489 dL_law__490 dL_law__491 dL_law__496 (by decide) rfl rfl rfl rfl (lp_leC (show 400 + 5 * (i + 1) ≤ 600000 by omega)) (lp_leS (show 73000 + 30 * (i + 1) ≤ 7000000 by omega)) et ea ?_
  refine am_subp (ls' := lp_ls i) [0, 1, 2, 3, 4] rfl ?_
  exact K r1 h2 hR1 R2

set_option maxHeartbeats 1000000 in
set_option maxRecDepth 100000 in
theorem lc_shoot {X : am_X} {ad : Nat → Nat} {b L i : Nat} {xs : Nat → Int32} {r : am_R} {h : am_H} (Cx : lp_Cx X ad b L xs) (hi : 6 * i + 6 ≤ L) (hR : am_rs r) (R : cl_R r h i) (K : ∀ r1 h1, am_rs r1 → cl_R r1 h1 (i + 1) → am_G X (am_VV ad) (lp_cs (i + 1)) 2798 (lp_ls i) [] r1 h1) : am_G X (am_VV ad) (lp_cs i) 963 (lp_ls i) [] r h := by
  obtain ⟨C, S, hb, hL⟩ := id Cx
  have hi2 : i < 512 := by omega
  have hV := R.1.1.1
  have hLo := R.1.2.1
  have hSc := R.1.2.2.1
  have hn7 := R.2.2.2.1
  have hPa := R.2.2.2.2.1
  have hB : rf_n ((h 323) 7) 1073000000 := rf_n_le rfl R.1.1.2.2.2.1 (by omega)
  refine am_aload_n (pc := 963) C dL_law__963 rfl ?_
  refine lp_arg (pc := 964) (k := 1) Cx hi (by decide) dL_law__964 dL_law__965 dL_law__967 dL_law__968 dL_law__969 rfl rfl ?_
  refine lp_arg (pc := 970) (k := 2) Cx hi (by decide) dL_law__970 dL_law__971 dL_law__973 dL_law__974 dL_law__975 rfl rfl ?_
  refine lp_arg (pc := 976) (k := 3) Cx hi (by decide) dL_law__976 dL_law__977 dL_law__979 dL_law__980 dL_law__981 rfl rfl ?_
  refine lp_bool (pc := 982) (t1 := 989) (t2 := 990) Cx dL_law__982 (by decide) dL_law__985 dL_law__986 (by decide) dL_law__989 rfl ?_
  refine am_aload_n (pc := 990) C dL_law__990 rfl ?_
  refine lp_cW (Y := mL_shoot) (hh := hL_shoot) (n := 5) (pc := 991) (st := []) (As := [.ref 0, .int (xs (6 * i + 1)), .int (xs (6 * i + 2)), .int (am_b (!decide (xs (6 * i + 3) = 0))), .ref 335]) (cz := lp_cs (i + 1)) C dL_law__991 kL_178 ⟨by decide, by decide, by decide +kernel⟩ ⟨(am_mem 1382 (by decide +kernel) rfl), (am_mem 139 (by decide +kernel) rfl), by decide⟩ (am_mem 1381 (by decide +kernel) rfl) rfl rfl (by decide) (show 400 + 5 * i + 4 ≤ 400 + 5 * (i + 1) by omega) (show 73000 + 30 * i + 24 ≤ 73000 + 30 * (i + 1) by omega) (lp_leC (show 400 + 5 * (i + 1) ≤ 600000 by omega)) (lp_leS (show 73000 + 30 * (i + 1) ≤ 7000000 by omega)) (Nat.le_of_ble_eq_true rfl) (w_shoot (xs (6 * i + 1)) (xs (6 * i + 2)) (am_b (!decide (xs (6 * i + 3) = 0))) lp_hP_act (c_X11_shoot hR (xs (6 * i + 1)) (xs (6 * i + 2)) (!decide (xs (6 * i + 3) = 0)) (h 323) hV hLo hSc (h 322) (h 327) hn7 hPa hB)) (fun y1 r1 h1 ey1 hp ho => ?_)
  obtain ⟨cc, ecc⟩ : ∃ q : Nat, q = rf_c_shoot (h 323) (xs (6 * i + 1)) (xs (6 * i + 2)) (!decide (xs (6 * i + 3) = 0)) := ⟨_, rfl⟩
  rw [← ecc] at ey1 ho hp
  have hcc : cc < 100 := by rw [ecc]; unfold rf_c_shoot; exact lp_cbl (by decide) (lp_cbl (by decide) (lp_cbl (by decide) (lp_cbl (by decide) (lp_cbl (by decide) (lp_cbl (by decide) (by decide))))))
  rw [ey1]
  refine am_istore (pc := 994) (ls' := lp_l5 i (nI cc)) C dL_law__994 (by decide) rfl ?_
  have f : ∀ j, 322 ≤ j → j ≠ 335 → h1 j = h j := fun j a b => lp_hi_act hp j a b
  have hR1 : am_rs r1 := lp_rs_act hR hp
  refine am_aload_n (pc := 996) C dL_law__996 rfl ?_
  refine lp_arg (pc := 997) (k := 1) Cx hi (by decide) dL_law__997 dL_law__998 dL_law__1000 dL_law__1001 dL_law__1002 rfl rfl ?_
  refine lp_arg (pc := 1003) (k := 2) Cx hi (by decide) dL_law__1003 dL_law__1004 dL_law__1006 dL_law__1007 dL_law__1008 rfl rfl ?_
  refine lp_arg (pc := 1009) (k := 3) Cx hi (by decide) dL_law__1009 dL_law__1010 dL_law__1012 dL_law__1013 dL_law__1014 rfl rfl ?_
  refine lp_bool (pc := 1015) (t1 := 1022) (t2 := 1023) Cx dL_law__1015 (by decide) dL_law__1018 dL_law__1019 (by decide) dL_law__1022 rfl ?_
  refine lp_cV (Y := mX12_shoot) (pc := 1023) (st := []) (As := [.int (xs (6 * i + 1)), .int (xs (6 * i + 2)), .int (am_b (!decide (xs (6 * i + 3) = 0)))]) C dL_law__1023 kL_181 v_X12_shoot rfl rfl bn_322 sh_322 ⟨by decide, rfl⟩ (by decide) (lp_leC (show 400 + 5 * (i + 1) ≤ 600000 by omega)) (lp_leS (show 73000 + 30 * (i + 1) ≤ 7000000 by omega)) (Nat.le_of_ble_eq_true rfl) (c_X12_shoot hR1 (xs (6 * i + 1)) (xs (6 * i + 2)) (!decide (xs (6 * i + 3) = 0)) (show rf_n ((h1 322) 7) 13 by rw [f 322 (by decide) (by decide)]; exact R.2.2.2.1) (show rf_I (h1 323) by rw [f 323 (by decide) (by decide)]; exact R.1.1.1)) (fun y2 h2 ey2 e2 => ?_)
  refine am_istore (pc := 1026) (ls' := lp_l6 i (nI cc) y2) C dL_law__1026 (by decide) rfl ?_
  simp only [f 322 (by decide) (by decide), f 323 (by decide) (by decide), f 325 (by decide) (by decide), f 326 (by decide) (by decide), f 327 (by decide) (by decide), f 328 (by decide) (by decide)] at ey2 e2
  rw [← ecc] at ey2 e2
  have F : ∀ j, j ≠ 322 → j ≠ 323 → j ≠ 326 → j ≠ 327 → (j < 330 ∨ 334 < j) → h2 j = h1 j := fun j a b c d k => by rw [e2]; repeat rw [am_row_ne _ _ _ (by omega)]
  have ea : cc = 0 → h2 335 0 = y2 := fun z => by rw [F 335 (by decide) (by decide) (by decide) (by decide) (by decide), ho z, ey2, rf_ga, if_pos z]
  have e322 : h2 322 = rf_gw cc (rf_remO (rf_oc (h 322) 0)) (rf_oc (h 322) cc) := by rw [e2, am_row_ne _ _ _ (by decide), am_row_ne _ _ _ (by decide), am_row_at]
  have e327 : h2 327 = rf_gw cc (rf_remA (rf_oc (h 322) 0) (h 323) (h 327)) (h 327) := by rw [e2, am_row_ne _ _ _ (by decide), am_row_at]
  have e323 := congrFun e2 323
  rw [am_row_at] at e323
  have et : (h2 322) 0 = nI cc := by rw [e322]; exact lp_t_act
  obtain ⟨-, R2⟩ := R.act hp (fun z => cl_G_shoot hi2 R.1.1 (ecc ▸ z)) hR (fun j a => F j (by omega) (by omega) (by omega) (by omega) (by omega)) e322 e327 e323 ((F 324 (by decide) (by decide) (by decide) (by decide) (by decide)).trans (f 324 (by decide) (by decide))) ((F 328 (by decide) (by decide) (by decide) (by decide) (by decide)).trans (f 328 (by decide) (by decide)))
  refine lp_tail (pc := 1028) (c := cc) (a := 0) (u := y2) Cx hR1 hcc dL_law__1028 dL_law__1029 kL_142 dL_law__1032 dL_law__1034 dL_law__1039 dL_law__1041 dL_law__1044 dL_law__1045 dL_law__1046 dL_law__1047 dL_law__1049 dL_law__1050 dL_law__1051 dL_law__1056 (by decide) rfl rfl rfl rfl (lp_leC (show 400 + 5 * (i + 1) ≤ 600000 by omega)) (lp_leS (show 73000 + 30 * (i + 1) ≤ 7000000 by omega)) et ea ?_
  refine am_subp (ls' := lp_ls i) [0, 1, 2, 3, 4] rfl ?_
  exact K r1 h2 hR1 R2

set_option maxHeartbeats 1000000 in
set_option maxRecDepth 100000 in
theorem lc_feed {X : am_X} {ad : Nat → Nat} {b L i : Nat} {xs : Nat → Int32} {r : am_R} {h : am_H} (Cx : lp_Cx X ad b L xs) (hi : 6 * i + 6 ≤ L) (hR : am_rs r) (R : cl_R r h i) (K : ∀ r1 h1, am_rs r1 → cl_R r1 h1 (i + 1) → am_G X (am_VV ad) (lp_cs (i + 1)) 2798 (lp_ls i) [] r1 h1) : am_G X (am_VV ad) (lp_cs i) 232 (lp_ls i) [] r h := by
  obtain ⟨C, S, hb, hL⟩ := id Cx
  have hi2 : i < 512 := by omega
  have hV := R.1.1.1
  have hLo := R.1.2.1
  have hSc := R.1.2.2.1
  refine am_aload_n (pc := 232) C dL_law__232 rfl ?_
  refine lp_arg (pc := 233) (k := 1) Cx hi (by decide) dL_law__233 dL_law__234 dL_law__236 dL_law__237 dL_law__238 rfl rfl ?_
  refine lp_arg (pc := 239) (k := 2) Cx hi (by decide) dL_law__239 dL_law__240 dL_law__242 dL_law__243 dL_law__244 rfl rfl ?_
  refine lp_arg (pc := 245) (k := 3) Cx hi (by decide) dL_law__245 dL_law__246 dL_law__248 dL_law__249 dL_law__250 rfl rfl ?_
  refine lp_arg (pc := 251) (k := 4) Cx hi (by decide) dL_law__251 dL_law__252 dL_law__254 dL_law__255 dL_law__256 rfl rfl ?_
  refine lp_arg (pc := 257) (k := 5) Cx hi (by decide) dL_law__257 dL_law__258 dL_law__260 dL_law__261 dL_law__262 rfl rfl ?_
  refine lp_cVr (Y := mX11_feed) (pc := 263) (st := []) (As := [.int (xs (6 * i + 1)), .int (xs (6 * i + 2)), .int (xs (6 * i + 3)), .int (xs (6 * i + 4)), .int (xs (6 * i + 5))]) C dL_law__263 kL_126 v_X11_feed rfl rfl bn_0 sh_0 ⟨by decide, rfl⟩ (by decide) (lp_leC (show 400 + 5 * i ≤ 600000 by omega)) (lp_leS (show 73000 + 30 * i ≤ 7000000 by omega)) (Nat.le_of_ble_eq_true rfl) (c_X11_feed hR (xs (6 * i + 1)) (xs (6 * i + 2)) (xs (6 * i + 3)) (xs (6 * i + 4)) (xs (6 * i + 5)) (h 323) hV hLo hSc (rf_nat ((h 322) 9)) (R.2.1.2.1.trans R.2.1.1.1.1) (by have := R.2.1.1.1.2; omega)) (fun y1 h1 ey1 hp => ?_)
  have hR1 := hR
  have f : ∀ j, 322 ≤ j → j ≠ 335 → h1 j = h j := by
    intro j a _
    rw [hp]
    split
    · rw [am_row_ne _ _ _ (by omega), am_row_ne _ _ _ (by omega)]
    · rfl
  refine am_aload_n (pc := 266) C dL_law__266 rfl ?_
  refine lp_arg (pc := 267) (k := 1) Cx hi (by decide) dL_law__267 dL_law__268 dL_law__270 dL_law__271 dL_law__272 rfl rfl ?_
  refine lp_arg (pc := 273) (k := 2) Cx hi (by decide) dL_law__273 dL_law__274 dL_law__276 dL_law__277 dL_law__278 rfl rfl ?_
  refine lp_arg (pc := 279) (k := 3) Cx hi (by decide) dL_law__279 dL_law__280 dL_law__282 dL_law__283 dL_law__284 rfl rfl ?_
  refine lp_arg (pc := 285) (k := 4) Cx hi (by decide) dL_law__285 dL_law__286 dL_law__288 dL_law__289 dL_law__290 rfl rfl ?_
  refine lp_arg (pc := 291) (k := 5) Cx hi (by decide) dL_law__291 dL_law__292 dL_law__294 dL_law__295 dL_law__296 rfl rfl ?_
  refine lp_cV (Y := mX12_feed) (pc := 297) (st := [.int y1]) (As := [.int (xs (6 * i + 1)), .int (xs (6 * i + 2)), .int (xs (6 * i + 3)), .int (xs (6 * i + 4)), .int (xs (6 * i + 5))]) C dL_law__297 kL_130 v_X12_feed rfl rfl bn_322 sh_322 ⟨by decide, rfl⟩ (by decide) (lp_leC (show 400 + 5 * i ≤ 600000 by omega)) (lp_leS (show 73000 + 30 * i ≤ 7000000 by omega)) (Nat.le_of_ble_eq_true rfl) (c_X12_feed hR1 (xs (6 * i + 1)) (xs (6 * i + 2)) (xs (6 * i + 3)) (xs (6 * i + 4)) (xs (6 * i + 5)) (show rf_Ob (h1 322) by rw [f 322 (by decide) (by decide)]; exact R.2.1.1)) (fun y2 h2 ey2 e2 => ?_)
  simp only [f 322 (by decide) (by decide), f 323 (by decide) (by decide), f 324 (by decide) (by decide), f 325 (by decide) (by decide), f 326 (by decide) (by decide), f 327 (by decide) (by decide), f 328 (by decide) (by decide), f 329 (by decide) (by decide)] at ey2 e2
  have F : ∀ j, j ≠ 322 → j ≠ 328 → j ≠ 329 → h2 j = h1 j := fun j a b c => by rw [e2]; repeat rw [am_row_ne _ _ _ (by assumption)]
  have R2 : cl_R r h2 (i + 1) := R.feed hp (fun j a => F j (by omega) (by omega) (by omega)) (by rw [e2, am_row_ne _ _ _ (by decide), am_row_ne _ _ _ (by decide), am_row_at]) (by rw [e2, am_row_at]) ((F 323 (by decide) (by decide) (by decide)).trans (f 323 (by decide) (by decide))) ((F 324 (by decide) (by decide) (by decide)).trans (f 324 (by decide) (by decide))) ((F 327 (by decide) (by decide) (by decide)).trans (f 327 (by decide) (by decide)))
  have eq12 : y1 = y2 := by rw [ey1, ey2]; exact lp_feed
  refine am_icmp_eq (pc := 300) (tgt := 2798) C dL_law__300 (by decide) (fun _ => ?_) (fun z => absurd eq12 z)
  refine am_widen (cs' := lp_cs (i + 1)) (show 400 + 5 * i ≤ 400 + 5 * (i + 1) by omega) (show 73000 + 30 * i ≤ 73000 + 30 * (i + 1) by omega) ?_
  exact K r h2 hR R2

set_option maxHeartbeats 1000000 in
set_option maxRecDepth 100000 in
theorem lc_undo {X : am_X} {ad : Nat → Nat} {b L i : Nat} {xs : Nat → Int32} {r : am_R} {h : am_H} (Cx : lp_Cx X ad b L xs) (hi : 6 * i + 6 ≤ L) (hR : am_rs r) (R : cl_R r h i) (K : ∀ r1 h1, am_rs r1 → cl_R r1 h1 (i + 1) → am_G X (am_VV ad) (lp_cs (i + 1)) 2798 (lp_ls i) [] r1 h1) : am_G X (am_VV ad) (lp_cs i) 2736 (lp_ls i) [] r h := by
  obtain ⟨C, S, hb, hL⟩ := id Cx
  have hi2 : i < 512 := by omega
  refine am_aload_n (pc := 2736) C dL_law__2736 rfl ?_
  refine am_callV (Y := mX11_undo) (pc := 2737) (st := []) (As := []) (mc := 0) (ms := 0) C dL_law__2737 kL_269 v_X11_undo rfl rfl bn_0 sh_0 ⟨by decide, rfl⟩ (by decide) (lp_leC (show 400 + 5 * i ≤ 600000 by omega)) (lp_leS (show 73000 + 30 * i ≤ 7000000 by omega)) (Nat.le_of_ble_eq_true rfl) (c_X11_undo hR (h 323) (h 322) (h 327) (fun hn => (R.2.2.2.2.2 _ (by omega)).2.1) R.2.2.2.1 R.2.2.2.2.1) (fun v1 r1 h1 hq => ?_)
  obtain ⟨ev, er, p0, p1⟩ := hq
  rw [ev, er]
  show am_G X (am_VV ad) (lp_cs i) 2740 (lp_ls i) [.int (am_b (decide (0 < rf_rmd (h 322))))] r h1
  have hR1 := hR
  have f : ∀ j, 322 ≤ j → j ≠ 335 → h1 j = h j := by
    intro j a _
    by_cases z : rf_rmd (h 322) = 0
    · rw [p0 z]
    · exact (p1 (by omega)).2.2 j ⟨Or.inr (by omega), by omega⟩
  refine am_aload_n (pc := 2740) C dL_law__2740 rfl ?_
  refine lp_cV (Y := mX12_undo) (pc := 2741) (st := [.int (am_b (decide (0 < rf_rmd (h 322))))]) (As := []) C dL_law__2741 kL_273 v_X12_undo rfl rfl bn_322 sh_322 ⟨by decide, rfl⟩ (by decide) (lp_leC (show 400 + 5 * i ≤ 600000 by omega)) (lp_leS (show 73000 + 30 * i ≤ 7000000 by omega)) (Nat.le_of_ble_eq_true rfl) (c_X12_undo hR1 (show rf_n ((h1 322) 7) 13 by rw [f 322 (by decide) (by decide)]; exact R.2.2.2.1)) (fun y2 h2 ey2 e2 => ?_)
  simp only [f 322 (by decide) (by decide), f 323 (by decide) (by decide), f 324 (by decide) (by decide), f 325 (by decide) (by decide), f 326 (by decide) (by decide), f 327 (by decide) (by decide), f 328 (by decide) (by decide), f 329 (by decide) (by decide)] at ey2 e2
  have F : ∀ j, j ≠ 322 → j ≠ 323 → h2 j = h1 j := fun j a b => by rw [e2, am_row_ne _ _ _ b, am_row_ne _ _ _ a]
  have R2 : cl_R r h2 (i + 1) := lp_undo R p0 p1 F (by rw [e2, am_row_ne _ _ _ (by decide), am_row_at]) (by rw [e2, am_row_at])
  have eq12 : (am_b (decide (0 < rf_rmd (h 322)))) = y2 := by rw [ey2]; exact lp_undo_a
  refine am_icmp_eq (pc := 2744) (tgt := 2798) C dL_law__2744 (by decide) (fun _ => ?_) (fun z => absurd eq12 z)
  refine am_widen (cs' := lp_cs (i + 1)) (show 400 + 5 * i ≤ 400 + 5 * (i + 1) by omega) (show 73000 + 30 * i ≤ 73000 + 30 * (i + 1) by omega) ?_
  exact K r h2 hR R2

set_option maxHeartbeats 1000000 in
set_option maxRecDepth 100000 in
theorem lc_war {X : am_X} {ad : Nat → Nat} {b L i : Nat} {xs : Nat → Int32} {r : am_R} {h : am_H} (Cx : lp_Cx X ad b L xs) (hi : 6 * i + 6 ≤ L) (hR : am_rs r) (R : cl_R r h i) (K : ∀ r1 h1, am_rs r1 → cl_R r1 h1 (i + 1) → am_G X (am_VV ad) (lp_cs (i + 1)) 2798 (lp_ls i) [] r1 h1) : am_G X (am_VV ad) (lp_cs i) 330 (lp_ls i) [] r h := by
  obtain ⟨C, S, hb, hL⟩ := id Cx
  have hi2 : i < 512 := by omega
  have hV := R.1.1.1
  have hLw := R.1.1.2.1
  have hLo := R.1.2.1
  have hSc := R.1.2.2.1
  have hA := R.1.2.2.2
  have hOb := R.2.1.1
  have hz := R.2.1.2.1
  have hby := R.2.1.2.2
  refine am_aload_n (pc := 330) C dL_law__330 rfl ?_
  refine am_aload_n (pc := 331) C dL_law__331 rfl ?_
  refine lp_cW (Y := mL_war) (hh := hL_war) (n := 2) (pc := 332) (st := []) (As := [.ref 0, .ref 335]) (cz := lp_cs (i + 1)) C dL_law__332 kL_136 ⟨by decide, by decide, by decide +kernel⟩ ⟨(am_mem 775 (by decide +kernel) rfl), (am_mem 139 (by decide +kernel) rfl), by decide⟩ (am_mem 774 (by decide +kernel) rfl) rfl rfl (by decide) (show 400 + 5 * i + 1 ≤ 400 + 5 * (i + 1) by omega) (show 73000 + 30 * i + 6 ≤ 73000 + 30 * (i + 1) by omega) (lp_leC (show 400 + 5 * (i + 1) ≤ 600000 by omega)) (lp_leS (show 73000 + 30 * (i + 1) ≤ 7000000 by omega)) (Nat.le_of_ble_eq_true rfl) (w_war  lp_hP_war (lp_x_war (c_X11_war hR (h 323) hV hLo hSc (h 328) (h 322) hOb hz hby hLw hA))) (fun y1 r1 h1 ey1 hp ho => ?_)
  obtain ⟨cc, ecc⟩ : ∃ q : Nat, q = rf_cW (h 328) (h 322) (h 323) := ⟨_, rfl⟩
  rw [← ecc] at ey1 ho
  have hcc : cc < 100 := by rw [ecc]; exact lp_cb_war
  rw [ey1]
  refine am_istore (pc := 335) (ls' := lp_l5 i (nI cc)) C dL_law__335 (by decide) rfl ?_
  obtain ⟨er, hk⟩ := hp
  have hR1 : am_rs r1 := by rw [er]; exact hR
  have R1 : cl_R r1 h i := by rw [er]; exact R
  have f : ∀ j, 322 ≤ j → j ≠ 335 → h1 j = h j := fun j a b => (am_row_ne h1 335 (h 335) b).symm.trans (lp_hi_war hk j a)
  refine am_aload_n (pc := 337) C dL_law__337 rfl ?_
  refine lp_cV (Y := mX12_war) (pc := 338) (st := []) (As := []) C dL_law__338 kL_141 v_X12_war rfl rfl bn_322 sh_322 ⟨by decide, rfl⟩ (by decide) (lp_leC (show 400 + 5 * (i + 1) ≤ 600000 by omega)) (lp_leS (show 73000 + 30 * (i + 1) ≤ 7000000 by omega)) (Nat.le_of_ble_eq_true rfl) (c_X12_war hR1 (show rf_Ob (h1 322) by rw [f 322 (by decide) (by decide)]; exact R.2.1.1) (show rf_I (h1 323) by rw [f 323 (by decide) (by decide)]; exact R.1.1.1)) (fun y2 h2 ey2 e2 => ?_)
  refine am_istore (pc := 341) (ls' := lp_l6 i (nI cc) y2) C dL_law__341 (by decide) rfl ?_
  simp only [f 322 (by decide) (by decide), f 323 (by decide) (by decide), f 325 (by decide) (by decide), f 326 (by decide) (by decide), f 327 (by decide) (by decide), f 328 (by decide) (by decide)] at ey2 e2
  have F : ∀ j, j ≠ 322 → j ≠ 323 → j ≠ 325 → h2 j = h1 j := fun j a b c => by rw [e2]; repeat rw [am_row_ne _ _ _ (by assumption)]
  have e322 : h2 322 = (rf_war (h 328) (h 322) (h 323) (h 325)).2.2.1 := by rw [e2, am_row_ne _ _ _ (by decide), am_row_at]
  have e323 : h2 323 = (rf_war (h 328) (h 322) (h 323) (h 325)).2.2.2 := by rw [e2, am_row_at]
  have et : (h2 322) 0 = nI cc := by rw [e322, ecc]; exact lp_t_war R.2.1.1
  have ea : cc = 0 → h2 335 0 = y2 := fun z => by rw [F 335 (by decide) (by decide) (by decide), ho z, ey2]; exact lp_a_war
  have R2 : cl_R r1 h2 (i + 1) := R1.war hk (fun j a => (F j (by omega) (by omega) (by omega)).trans (am_row_ne h1 335 (h 335) (by omega)).symm) e322 e323 ((F 324 (by decide) (by decide) (by decide)).trans (f 324 (by decide) (by decide))) ((F 327 (by decide) (by decide) (by decide)).trans (f 327 (by decide) (by decide))) (fun h0 => rf_all_E R.2.1.1 R.1.1.1 h0)
  refine lp_tail (pc := 343) (c := cc) (a := 0) (u := y2) Cx hR1 hcc dL_law__343 dL_law__344 kL_142 dL_law__347 dL_law__349 dL_law__354 dL_law__356 dL_law__359 dL_law__360 dL_law__361 dL_law__362 dL_law__364 dL_law__365 dL_law__366 dL_law__371 (by decide) rfl rfl rfl rfl (lp_leC (show 400 + 5 * (i + 1) ≤ 600000 by omega)) (lp_leS (show 73000 + 30 * (i + 1) ≤ 7000000 by omega)) et ea ?_
  refine am_subp (ls' := lp_ls i) [0, 1, 2, 3, 4] rfl ?_
  exact K r1 h2 hR1 R2

set_option maxHeartbeats 1000000 in
set_option maxRecDepth 100000 in
theorem lc_matches {X : am_X} {ad : Nat → Nat} {b L i : Nat} {xs : Nat → Int32} {r : am_R} {h : am_H} (Cx : lp_Cx X ad b L xs) (hi : 6 * i + 6 ≤ L) (hR : am_rs r) (R : cl_R r h i) (K : ∀ r1 h1, am_rs r1 → cl_R r1 h1 (i + 1) → am_G X (am_VV ad) (lp_cs (i + 1)) 2798 (lp_ls i) [] r1 h1) : am_G X (am_VV ad) (lp_cs i) 2262 (lp_ls i) [] r h := by
  obtain ⟨C, S, hb, hL⟩ := id Cx
  have hi2 : i < 512 := by omega
  have hV := R.1.1.1
  have hLo := R.1.2.1
  have hSc := R.1.2.2.1
  have hz := R.2.1.2.1
  have hz9 := R.2.1.1.1
  have hby := R.2.1.2.2
  have hh : rf_n ((h 323) 5) 1073741824 := rf_n_le rfl R.1.1.2.2.2.2 (by omega)
  refine am_aload_n (pc := 2262) C dL_law__2262 rfl ?_
  refine lp_arg (pc := 2263) (k := 1) Cx hi (by decide) dL_law__2263 dL_law__2264 dL_law__2266 dL_law__2267 dL_law__2268 rfl rfl ?_
  refine lp_arg (pc := 2269) (k := 2) Cx hi (by decide) dL_law__2269 dL_law__2270 dL_law__2272 dL_law__2273 dL_law__2274 rfl rfl ?_
  refine am_aload_n (pc := 2275) C dL_law__2275 rfl ?_
  refine lp_cW (Y := mL_matches) (hh := hL_matches) (n := 4) (pc := 2276) (st := []) (As := [.ref 0, .int (xs (6 * i + 1)), .int (xs (6 * i + 2)), .ref 335]) (cz := lp_cs (i + 1)) C dL_law__2276 kL_243 ⟨by decide, by decide, by decide +kernel⟩ ⟨(am_mem 1647 (by decide +kernel) rfl), (am_mem 139 (by decide +kernel) rfl), by decide⟩ (am_mem 1646 (by decide +kernel) rfl) rfl rfl (by decide) (show 400 + 5 * i + 1 ≤ 400 + 5 * (i + 1) by omega) (show 73000 + 30 * i + 6 ≤ 73000 + 30 * (i + 1) by omega) (lp_leC (show 400 + 5 * (i + 1) ≤ 600000 by omega)) (lp_leS (show 73000 + 30 * (i + 1) ≤ 7000000 by omega)) (Nat.le_of_ble_eq_true rfl) (w_matches (xs (6 * i + 1)) (xs (6 * i + 2)) lp_hP_matches (c_X11_matches hR (xs (6 * i + 1)) (xs (6 * i + 2)) (h 323) hV hLo hSc (h 328) (h 322) hz hz9 hby hh)) (fun y1 r1 h1 ey1 hp ho => ?_)
  obtain ⟨cc, ecc⟩ : ∃ q : Nat, q = rf_c_matches (h 323) (h 328) (h 322) (xs (6 * i + 1)) (xs (6 * i + 2)) := ⟨_, rfl⟩
  rw [← ecc] at ey1 ho
  have hcc : cc < 100 := by rw [ecc]; unfold rf_c_matches; exact lp_cbl (by decide) (lp_cbl (by decide) (by decide))
  rw [ey1]
  refine am_istore (pc := 2279) (ls' := lp_l5 i (nI cc)) C dL_law__2279 (by decide) rfl ?_
  obtain ⟨er, z9, hk⟩ := hp
  have hR1 : am_rs r1 := by rw [er]; exact hR
  have R1 : cl_R r1 h i := by rw [er]; exact R
  have f : ∀ j, 322 ≤ j → j ≠ 335 → h1 j = h j := fun j a b => hk j ⟨by omega, Or.inr (by omega), Or.inr (by omega), by omega, Or.inr a, b⟩
  refine am_aload_n (pc := 2281) C dL_law__2281 rfl ?_
  refine lp_arg (pc := 2282) (k := 1) Cx hi (by decide) dL_law__2282 dL_law__2283 dL_law__2285 dL_law__2286 dL_law__2287 rfl rfl ?_
  refine lp_arg (pc := 2288) (k := 2) Cx hi (by decide) dL_law__2288 dL_law__2289 dL_law__2291 dL_law__2292 dL_law__2293 rfl rfl ?_
  refine lp_cVj (Y := mX12_matches) (pc := 2294) (st := []) (As := [.int (xs (6 * i + 1)), .int (xs (6 * i + 2))]) C dL_law__2294 kL_245 v_X12_matches rfl rfl bn_322 sh_322 ⟨by decide, rfl⟩ (by decide) (lp_leC (show 400 + 5 * (i + 1) ≤ 600000 by omega)) (lp_leS (show 73000 + 30 * (i + 1) ≤ 7000000 by omega)) (Nat.le_of_ble_eq_true rfl) (c_X12_matches hR1 (xs (6 * i + 1)) (xs (6 * i + 2)) (show rf_Ob (h1 322) by rw [f 322 (by decide) (by decide)]; exact R.2.1.1) (show rf_I (h1 323) by rw [f 323 (by decide) (by decide)]; exact R.1.1.1) (show rf_n ((h1 323) 5) 1073741824 by rw [f 323 (by decide) (by decide)]; exact rf_n_le rfl R.1.1.2.2.2.2 (by omega))) (fun y2 h2 G2 ey2 e2 => ?_)
  refine am_istore (pc := 2297) (ls' := lp_l6 i (nI cc) y2) C dL_law__2297 (by decide) rfl ?_
  simp only [f 322 (by decide) (by decide), f 323 (by decide) (by decide), f 325 (by decide) (by decide), f 326 (by decide) (by decide), f 327 (by decide) (by decide), f 328 (by decide) (by decide)] at ey2 e2
  rw [← ecc] at ey2 e2
  have F : ∀ j, j ≠ 322 → j ≠ 323 → j ≠ 326 → j ≠ 327 → (j < 330 ∨ 334 < j) → h2 j = h1 j := fun j a b c d k => by rw [e2]; repeat rw [am_row_ne _ _ _ (by omega)]
  have ea : cc = 0 → h2 335 0 = y2 := fun z => by rw [F 335 (by decide) (by decide) (by decide) (by decide) (by decide), ho z, ey2, rf_ga, if_pos z]
  have e322 : h2 322 = upd (rf_uses (h 322)) 0 (nI cc) := by rw [e2, am_row_at]
  have et : (h2 322) 0 = nI cc := by rw [e322]; exact rf_upd_eq
  have R2 : cl_R r1 h2 (i + 1) := R1.matches z9 hk (fun j a => F j (by omega) (by omega) (by omega) (by omega) (by omega)) e322 ((by rw [e2, am_row_ne _ _ _ (by decide), am_row_ne _ _ _ (by decide), am_row_ne _ _ _ (by decide)] : h2 323 = h1 323).trans (f 323 (by decide) (by decide))) ((by rw [e2, am_row_ne _ _ _ (by decide), am_row_ne _ _ _ (by decide), am_row_ne _ _ _ (by decide)] : h2 324 = h1 324).trans (f 324 (by decide) (by decide))) ((by rw [e2, am_row_ne _ _ _ (by decide), am_row_ne _ _ _ (by decide), am_row_ne _ _ _ (by decide)] : h2 327 = h1 327).trans (f 327 (by decide) (by decide)))
  refine lp_tail (pc := 2299) (c := cc) (a := 0) (u := y2) Cx hR1 hcc dL_law__2299 dL_law__2300 kL_142 dL_law__2303 dL_law__2305 dL_law__2310 dL_law__2312 dL_law__2315 dL_law__2316 dL_law__2317 dL_law__2318 dL_law__2320 dL_law__2321 dL_law__2322 dL_law__2327 (by decide) rfl rfl rfl rfl (lp_leC (show 400 + 5 * (i + 1) ≤ 600000 by omega)) (lp_leS (show 73000 + 30 * (i + 1) ≤ 7000000 by omega)) et ea ?_
  refine am_subp (ls' := lp_ls i) [0, 1, 2, 3, 4] rfl ?_
  exact K r1 h2 hR1 R2
end LC
