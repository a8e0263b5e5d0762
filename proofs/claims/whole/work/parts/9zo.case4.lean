/-! THE LAW's cases: end, fault, drill, agreed, treaty, hitter, seed, image, back, count -/
section LC
set_option maxHeartbeats 1000000 in
set_option maxRecDepth 100000 in
theorem lc_end {X : am_X} {ad : Nat → Nat} {b L i : Nat} {xs : Nat → Int32} {r : am_R} {h : am_H} (Cx : lp_Cx X ad b L xs) (hi : 6 * i + 6 ≤ L) (hR : am_rs r) (R : cl_R r h i) (K : ∀ r1 h1, am_rs r1 → cl_R r1 h1 (i + 1) → am_G X (am_VV ad) (lp_cs (i + 1)) 2798 (lp_ls i) [] r1 h1) : am_G X (am_VV ad) (lp_cs i) 305 (lp_ls i) [] r h := by
  obtain ⟨C, S, hb, hL⟩ := id Cx
  have hi2 : i < 512 := by omega
  have hV := R.1.1.1
  have hLo := R.1.2.1
  have hSc := R.1.2.2.1
  have hz := R.2.1.2.1
  refine am_aload_n (pc := 305) C dL_law__305 rfl ?_
  refine lp_arg (pc := 306) (k := 1) Cx hi (by decide) dL_law__306 dL_law__307 dL_law__309 dL_law__310 dL_law__311 rfl rfl ?_
  refine lp_cVr (Y := mX11_end) (pc := 312) (st := []) (As := [.int (xs (6 * i + 1))]) C dL_law__312 kL_131 v_X11_end rfl rfl bn_0 sh_0 ⟨by decide, rfl⟩ (by decide) (lp_leC (show 400 + 5 * i ≤ 600000 by omega)) (lp_leS (show 73000 + 30 * i ≤ 7000000 by omega)) (Nat.le_of_ble_eq_true rfl) (c_X11_end hR (xs (6 * i + 1)) (h 323) hV hLo hSc (h 322) hz) (fun y1 h1 ey1 hp => ?_)
  have hR1 := hR
  have f : ∀ j, 322 ≤ j → j ≠ 335 → h1 j = h j := by
    intro j a _
    rw [hp]
    split
    · exact am_row_ne _ _ _ (by omega)
    · rfl
  refine am_aload_n (pc := 315) C dL_law__315 rfl ?_
  refine lp_arg (pc := 316) (k := 1) Cx hi (by decide) dL_law__316 dL_law__317 dL_law__319 dL_law__320 dL_law__321 rfl rfl ?_
  refine lp_cV (Y := mX12_end) (pc := 322) (st := [.int y1]) (As := [.int (xs (6 * i + 1))]) C dL_law__322 kL_135 v_X12_end rfl rfl bn_322 sh_322 ⟨by decide, rfl⟩ (by decide) (lp_leC (show 400 + 5 * i ≤ 600000 by omega)) (lp_leS (show 73000 + 30 * i ≤ 7000000 by omega)) (Nat.le_of_ble_eq_true rfl) (c_X12_end hR1 (xs (6 * i + 1))) (fun y2 h2 ey2 e2 => ?_)
  simp only [f 322 (by decide) (by decide), f 323 (by decide) (by decide), f 324 (by decide) (by decide), f 325 (by decide) (by decide), f 326 (by decide) (by decide), f 327 (by decide) (by decide), f 328 (by decide) (by decide), f 329 (by decide) (by decide)] at ey2 e2
  have F : ∀ j, j ≠ 322 → h2 j = h1 j := fun j a => by rw [e2]; exact am_row_ne _ _ _ a
  have R2 : cl_R r h2 (i + 1) := R.end_ hp (fun j a => F j (by omega)) (by rw [e2, am_row_at]) ((F 323 (by decide)).trans (f 323 (by decide) (by decide))) ((F 324 (by decide)).trans (f 324 (by decide) (by decide))) ((F 327 (by decide)).trans (f 327 (by decide) (by decide))) ((F 328 (by decide)).trans (f 328 (by decide) (by decide)))
  have eq12 : y1 = y2 := by rw [ey1, ey2]
  refine am_icmp_eq (pc := 325) (tgt := 2798) C dL_law__325 (by decide) (fun _ => ?_) (fun z => absurd eq12 z)
  refine am_widen (cs' := lp_cs (i + 1)) (show 400 + 5 * i ≤ 400 + 5 * (i + 1) by omega) (show 73000 + 30 * i ≤ 73000 + 30 * (i + 1) by omega) ?_
  exact K r h2 hR R2

set_option maxHeartbeats 1000000 in
set_option maxRecDepth 100000 in
theorem lc_fault {X : am_X} {ad : Nat → Nat} {b L i : Nat} {xs : Nat → Int32} {r : am_R} {h : am_H} (Cx : lp_Cx X ad b L xs) (hi : 6 * i + 6 ≤ L) (hR : am_rs r) (R : cl_R r h i) (K : ∀ r1 h1, am_rs r1 → cl_R r1 h1 (i + 1) → am_G X (am_VV ad) (lp_cs (i + 1)) 2798 (lp_ls i) [] r1 h1) : am_G X (am_VV ad) (lp_cs i) 418 (lp_ls i) [] r h := by
  obtain ⟨C, S, hb, hL⟩ := id Cx
  have hi2 : i < 512 := by omega
  have hV := R.1.1.1
  have hLo := R.1.2.1
  have hSc := R.1.2.2.1
  refine am_aload_n (pc := 418) C dL_law__418 rfl ?_
  refine lp_cVr (Y := mX11_fault) (pc := 419) (st := []) (As := []) C dL_law__419 kL_148 v_X11_fault rfl rfl bn_0 sh_0 ⟨by decide, rfl⟩ (by decide) (lp_leC (show 400 + 5 * i ≤ 600000 by omega)) (lp_leS (show 73000 + 30 * i ≤ 7000000 by omega)) (Nat.le_of_ble_eq_true rfl) (c_X11_fault hR (h 323) hV hLo hSc) (fun y1 h1 ey1 hp => ?_)
  have hR1 := hR
  have f : ∀ j, 322 ≤ j → j ≠ 335 → h1 j = h j := fun j a b => hp j ⟨Or.inr (by omega), Or.inr (by omega), by omega, Or.inr a, b⟩
  refine am_aload_n (pc := 422) C dL_law__422 rfl ?_
  refine lp_cV (Y := mX12_fault) (pc := 423) (st := [.int y1]) (As := []) C dL_law__423 kL_151 v_X12_fault rfl rfl bn_322 sh_322 ⟨by decide, rfl⟩ (by decide) (lp_leC (show 400 + 5 * i ≤ 600000 by omega)) (lp_leS (show 73000 + 30 * i ≤ 7000000 by omega)) (Nat.le_of_ble_eq_true rfl) (c_X12_fault hR1) (fun y2 h2 ey2 e2 => ?_)
  simp only [f 322 (by decide) (by decide), f 323 (by decide) (by decide), f 324 (by decide) (by decide), f 325 (by decide) (by decide), f 326 (by decide) (by decide), f 327 (by decide) (by decide), f 328 (by decide) (by decide), f 329 (by decide) (by decide)] at ey2 e2
  have F : ∀ j, j ≠ 322 → h2 j = h1 j := fun j a => by rw [e2]; exact am_row_ne _ _ _ a
  have e322 : h2 322 = rf_oc (h 322) 0 := by rw [e2]; exact am_row_at _ _ _
  have R2 : cl_R r h2 (i + 1) := lp_pure R hp (fun j a b _ => F j a) e322
  have eq12 : y1 = y2 := by rw [ey1, ey2]; exact R.2.2.1.1
  refine am_icmp_eq (pc := 426) (tgt := 2798) C dL_law__426 (by decide) (fun _ => ?_) (fun z => absurd eq12 z)
  refine am_widen (cs' := lp_cs (i + 1)) (show 400 + 5 * i ≤ 400 + 5 * (i + 1) by omega) (show 73000 + 30 * i ≤ 73000 + 30 * (i + 1) by omega) ?_
  exact K r h2 hR R2

set_option maxHeartbeats 1000000 in
set_option maxRecDepth 100000 in
theorem lc_drill {X : am_X} {ad : Nat → Nat} {b L i : Nat} {xs : Nat → Int32} {r : am_R} {h : am_H} (Cx : lp_Cx X ad b L xs) (hi : 6 * i + 6 ≤ L) (hR : am_rs r) (R : cl_R r h i) (K : ∀ r1 h1, am_rs r1 → cl_R r1 h1 (i + 1) → am_G X (am_VV ad) (lp_cs (i + 1)) 2798 (lp_ls i) [] r1 h1) : am_G X (am_VV ad) (lp_cs i) 1747 (lp_ls i) [] r h := by
  obtain ⟨C, S, hb, hL⟩ := id Cx
  have hi2 : i < 512 := by omega
  have hV := R.1.1.1
  have hLo := R.1.2.1
  have hSc := R.1.2.2.1
  refine am_aload_n (pc := 1747) C dL_law__1747 rfl ?_
  refine lp_arg (pc := 1748) (k := 1) Cx hi (by decide) dL_law__1748 dL_law__1749 dL_law__1751 dL_law__1752 dL_law__1753 rfl rfl ?_
  refine lp_bool (pc := 1754) (t1 := 1761) (t2 := 1762) Cx dL_law__1754 (by decide) dL_law__1757 dL_law__1758 (by decide) dL_law__1761 rfl ?_
  refine lp_cVr (Y := mX11_drill) (pc := 1762) (st := []) (As := [.int (am_b (!decide (xs (6 * i + 1) = 0)))]) C dL_law__1762 kL_212 v_X11_drill rfl rfl bn_0 sh_0 ⟨by decide, rfl⟩ (by decide) (lp_leC (show 400 + 5 * i ≤ 600000 by omega)) (lp_leS (show 73000 + 30 * i ≤ 7000000 by omega)) (Nat.le_of_ble_eq_true rfl) (c_X11_drill hR (!decide (xs (6 * i + 1) = 0)) (h 323) hV hLo hSc) (fun y1 h1 ey1 hp => ?_)
  have hR1 := hR
  have f : ∀ j, 322 ≤ j → j ≠ 335 → h1 j = h j := fun j a b => hp j ⟨Or.inr (by omega), Or.inr (by omega), by omega, Or.inr a, b⟩
  refine am_aload_n (pc := 1765) C dL_law__1765 rfl ?_
  refine lp_arg (pc := 1766) (k := 1) Cx hi (by decide) dL_law__1766 dL_law__1767 dL_law__1769 dL_law__1770 dL_law__1771 rfl rfl ?_
  refine lp_bool (pc := 1772) (t1 := 1779) (t2 := 1780) Cx dL_law__1772 (by decide) dL_law__1775 dL_law__1776 (by decide) dL_law__1779 rfl ?_
  refine lp_cV (Y := mX12_drill) (pc := 1780) (st := [.int y1]) (As := [.int (am_b (!decide (xs (6 * i + 1) = 0)))]) C dL_law__1780 kL_216 v_X12_drill rfl rfl bn_322 sh_322 ⟨by decide, rfl⟩ (by decide) (lp_leC (show 400 + 5 * i ≤ 600000 by omega)) (lp_leS (show 73000 + 30 * i ≤ 7000000 by omega)) (Nat.le_of_ble_eq_true rfl) (c_X12_drill hR1 (!decide (xs (6 * i + 1) = 0)) (show rf_I (h1 323) by rw [f 323 (by decide) (by decide)]; exact R.1.1.1)) (fun y2 h2 ey2 e2 => ?_)
  simp only [f 322 (by decide) (by decide), f 323 (by decide) (by decide), f 324 (by decide) (by decide), f 325 (by decide) (by decide), f 326 (by decide) (by decide), f 327 (by decide) (by decide), f 328 (by decide) (by decide), f 329 (by decide) (by decide)] at ey2 e2
  have F : ∀ j, j ≠ 322 → h2 j = h1 j := fun j a => by rw [e2]; exact am_row_ne _ _ _ a
  have e322 : h2 322 = rf_oc (h 322) 0 := by rw [e2]; exact am_row_at _ _ _
  have R2 : cl_R r h2 (i + 1) := lp_pure R hp (fun j a b _ => F j a) e322
  have eq12 : y1 = y2 := by rw [ey1, ey2]; exact lp_ga0 rfl
  refine am_icmp_eq (pc := 1783) (tgt := 2798) C dL_law__1783 (by decide) (fun _ => ?_) (fun z => absurd eq12 z)
  refine am_widen (cs' := lp_cs (i + 1)) (show 400 + 5 * i ≤ 400 + 5 * (i + 1) by omega) (show 73000 + 30 * i ≤ 73000 + 30 * (i + 1) by omega) ?_
  exact K r h2 hR R2

set_option maxHeartbeats 1000000 in
set_option maxRecDepth 100000 in
theorem lc_agreed {X : am_X} {ad : Nat → Nat} {b L i : Nat} {xs : Nat → Int32} {r : am_R} {h : am_H} (Cx : lp_Cx X ad b L xs) (hi : 6 * i + 6 ≤ L) (hR : am_rs r) (R : cl_R r h i) (K : ∀ r1 h1, am_rs r1 → cl_R r1 h1 (i + 1) → am_G X (am_VV ad) (lp_cs (i + 1)) 2798 (lp_ls i) [] r1 h1) : am_G X (am_VV ad) (lp_cs i) 2196 (lp_ls i) [] r h := by
  obtain ⟨C, S, hb, hL⟩ := id Cx
  have hi2 : i < 512 := by omega
  have hV := R.1.1.1
  have hLo := R.1.2.1
  have hSc := R.1.2.2.1
  refine am_aload_n (pc := 2196) C dL_law__2196 rfl ?_
  refine lp_cVr (Y := mX11_agreed) (pc := 2197) (st := []) (As := []) C dL_law__2197 kL_235 v_X11_agreed rfl rfl bn_0 sh_0 ⟨by decide, rfl⟩ (by decide) (lp_leC (show 400 + 5 * i ≤ 600000 by omega)) (lp_leS (show 73000 + 30 * i ≤ 7000000 by omega)) (Nat.le_of_ble_eq_true rfl) (c_X11_agreed hR (h 323) hV hLo hSc) (fun y1 h1 ey1 hp => ?_)
  have hR1 := hR
  have f : ∀ j, 322 ≤ j → j ≠ 335 → h1 j = h j := fun j a b => hp j ⟨Or.inr (by omega), Or.inr (by omega), by omega, Or.inr a, b⟩
  refine am_aload_n (pc := 2200) C dL_law__2200 rfl ?_
  refine lp_cV (Y := mX12_agreed) (pc := 2201) (st := [.int y1]) (As := []) C dL_law__2201 kL_238 v_X12_agreed rfl rfl bn_322 sh_322 ⟨by decide, rfl⟩ (by decide) (lp_leC (show 400 + 5 * i ≤ 600000 by omega)) (lp_leS (show 73000 + 30 * i ≤ 7000000 by omega)) (Nat.le_of_ble_eq_true rfl) (c_X12_agreed hR1 (show rf_I (h1 323) by rw [f 323 (by decide) (by decide)]; exact R.1.1.1)) (fun y2 h2 ey2 e2 => ?_)
  simp only [f 322 (by decide) (by decide), f 323 (by decide) (by decide), f 324 (by decide) (by decide), f 325 (by decide) (by decide), f 326 (by decide) (by decide), f 327 (by decide) (by decide), f 328 (by decide) (by decide), f 329 (by decide) (by decide)] at ey2 e2
  have F : ∀ j, j ≠ 322 → h2 j = h1 j := fun j a => by rw [e2]; exact am_row_ne _ _ _ a
  have e322 : h2 322 = rf_oc (h 322) 0 := by rw [e2]; exact am_row_at _ _ _
  have R2 : cl_R r h2 (i + 1) := lp_pure R hp (fun j a b _ => F j a) e322
  have eq12 : y1 = y2 := by rw [ey1, ey2]; exact lp_ga0 rfl
  refine am_icmp_eq (pc := 2204) (tgt := 2798) C dL_law__2204 (by decide) (fun _ => ?_) (fun z => absurd eq12 z)
  refine am_widen (cs' := lp_cs (i + 1)) (show 400 + 5 * i ≤ 400 + 5 * (i + 1) by omega) (show 73000 + 30 * i ≤ 73000 + 30 * (i + 1) by omega) ?_
  exact K r h2 hR R2

set_option maxHeartbeats 1000000 in
set_option maxRecDepth 100000 in
theorem lc_treaty {X : am_X} {ad : Nat → Nat} {b L i : Nat} {xs : Nat → Int32} {r : am_R} {h : am_H} (Cx : lp_Cx X ad b L xs) (hi : 6 * i + 6 ≤ L) (hR : am_rs r) (R : cl_R r h i) (K : ∀ r1 h1, am_rs r1 → cl_R r1 h1 (i + 1) → am_G X (am_VV ad) (lp_cs (i + 1)) 2798 (lp_ls i) [] r1 h1) : am_G X (am_VV ad) (lp_cs i) 2209 (lp_ls i) [] r h := by
  obtain ⟨C, S, hb, hL⟩ := id Cx
  have hi2 : i < 512 := by omega
  have hV := R.1.1.1
  have hLo := R.1.2.1
  have hSc := R.1.2.2.1
  refine am_aload_n (pc := 2209) C dL_law__2209 rfl ?_
  refine lp_arg (pc := 2210) (k := 1) Cx hi (by decide) dL_law__2210 dL_law__2211 dL_law__2213 dL_law__2214 dL_law__2215 rfl rfl ?_
  refine lp_arg (pc := 2216) (k := 2) Cx hi (by decide) dL_law__2216 dL_law__2217 dL_law__2219 dL_law__2220 dL_law__2221 rfl rfl ?_
  refine lp_bool (pc := 2222) (t1 := 2229) (t2 := 2230) Cx dL_law__2222 (by decide) dL_law__2225 dL_law__2226 (by decide) dL_law__2229 rfl ?_
  refine lp_cVr (Y := mX11_treaty) (pc := 2230) (st := []) (As := [.int (xs (6 * i + 1)), .int (am_b (!decide (xs (6 * i + 2) = 0)))]) C dL_law__2230 kL_239 v_X11_treaty rfl rfl bn_0 sh_0 ⟨by decide, rfl⟩ (by decide) (lp_leC (show 400 + 5 * i ≤ 600000 by omega)) (lp_leS (show 73000 + 30 * i ≤ 7000000 by omega)) (Nat.le_of_ble_eq_true rfl) (c_X11_treaty hR (xs (6 * i + 1)) (!decide (xs (6 * i + 2) = 0)) (h 323) hV hLo hSc) (fun y1 h1 ey1 hp => ?_)
  have hR1 := hR
  have f : ∀ j, 322 ≤ j → j ≠ 335 → h1 j = h j := fun j a b => hp j ⟨Or.inr (by omega), Or.inr (by omega), by omega, Or.inr a, b⟩
  refine am_aload_n (pc := 2233) C dL_law__2233 rfl ?_
  refine lp_arg (pc := 2234) (k := 1) Cx hi (by decide) dL_law__2234 dL_law__2235 dL_law__2237 dL_law__2238 dL_law__2239 rfl rfl ?_
  refine lp_arg (pc := 2240) (k := 2) Cx hi (by decide) dL_law__2240 dL_law__2241 dL_law__2243 dL_law__2244 dL_law__2245 rfl rfl ?_
  refine lp_bool (pc := 2246) (t1 := 2253) (t2 := 2254) Cx dL_law__2246 (by decide) dL_law__2249 dL_law__2250 (by decide) dL_law__2253 rfl ?_
  refine lp_cV (Y := mX12_treaty) (pc := 2254) (st := [.int y1]) (As := [.int (xs (6 * i + 1)), .int (am_b (!decide (xs (6 * i + 2) = 0)))]) C dL_law__2254 kL_242 v_X12_treaty rfl rfl bn_322 sh_322 ⟨by decide, rfl⟩ (by decide) (lp_leC (show 400 + 5 * i ≤ 600000 by omega)) (lp_leS (show 73000 + 30 * i ≤ 7000000 by omega)) (Nat.le_of_ble_eq_true rfl) (c_X12_treaty hR1 (xs (6 * i + 1)) (!decide (xs (6 * i + 2) = 0)) (show rf_I (h1 323) by rw [f 323 (by decide) (by decide)]; exact R.1.1.1)) (fun y2 h2 ey2 e2 => ?_)
  simp only [f 322 (by decide) (by decide), f 323 (by decide) (by decide), f 324 (by decide) (by decide), f 325 (by decide) (by decide), f 326 (by decide) (by decide), f 327 (by decide) (by decide), f 328 (by decide) (by decide), f 329 (by decide) (by decide)] at ey2 e2
  have F : ∀ j, j ≠ 322 → h2 j = h1 j := fun j a => by rw [e2]; exact am_row_ne _ _ _ a
  have e322 : h2 322 = rf_oc (h 322) 0 := by rw [e2]; exact am_row_at _ _ _
  have R2 : cl_R r h2 (i + 1) := lp_pure R hp (fun j a b _ => F j a) e322
  have eq12 : y1 = y2 := by rw [ey1, ey2]; exact lp_ga0 rfl
  refine am_icmp_eq (pc := 2257) (tgt := 2798) C dL_law__2257 (by decide) (fun _ => ?_) (fun z => absurd eq12 z)
  refine am_widen (cs' := lp_cs (i + 1)) (show 400 + 5 * i ≤ 400 + 5 * (i + 1) by omega) (show 73000 + 30 * i ≤ 73000 + 30 * (i + 1) by omega) ?_
  exact K r h2 hR R2

set_option maxHeartbeats 1000000 in
set_option maxRecDepth 100000 in
theorem lc_hitter {X : am_X} {ad : Nat → Nat} {b L i : Nat} {xs : Nat → Int32} {r : am_R} {h : am_H} (Cx : lp_Cx X ad b L xs) (hi : 6 * i + 6 ≤ L) (hR : am_rs r) (R : cl_R r h i) (K : ∀ r1 h1, am_rs r1 → cl_R r1 h1 (i + 1) → am_G X (am_VV ad) (lp_cs (i + 1)) 2798 (lp_ls i) [] r1 h1) : am_G X (am_VV ad) (lp_cs i) 2698 (lp_ls i) [] r h := by
  obtain ⟨C, S, hb, hL⟩ := id Cx
  have hi2 : i < 512 := by omega
  have hV := R.1.1.1
  have hLo := R.1.2.1
  have hSc := R.1.2.2.1
  have hB2 : rf_n ((h 323) 7) 2147483647 := rf_n_le rfl R.1.1.2.2.2.1 (by omega)
  refine am_aload_n (pc := 2698) C dL_law__2698 rfl ?_
  refine lp_cVr (Y := mX11_hitter) (pc := 2699) (st := []) (As := []) C dL_law__2699 kL_261 v_X11_hitter rfl rfl bn_0 sh_0 ⟨by decide, rfl⟩ (by decide) (lp_leC (show 400 + 5 * i ≤ 600000 by omega)) (lp_leS (show 73000 + 30 * i ≤ 7000000 by omega)) (Nat.le_of_ble_eq_true rfl) (c_X11_hitter hR (h 323) hV hLo hSc hB2) (fun y1 h1 ey1 hp => ?_)
  have hR1 := hR
  have f : ∀ j, 322 ≤ j → j ≠ 335 → h1 j = h j := fun j a b => hp j ⟨Or.inr (by omega), Or.inr (by omega), by omega, Or.inr a, b⟩
  refine am_aload_n (pc := 2702) C dL_law__2702 rfl ?_
  refine lp_cV (Y := mX12_hitter) (pc := 2703) (st := [.int y1]) (As := []) C dL_law__2703 kL_264 v_X12_hitter rfl rfl bn_322 sh_322 ⟨by decide, rfl⟩ (by decide) (lp_leC (show 400 + 5 * i ≤ 600000 by omega)) (lp_leS (show 73000 + 30 * i ≤ 7000000 by omega)) (Nat.le_of_ble_eq_true rfl) (c_X12_hitter hR1 (show rf_I (h1 323) by rw [f 323 (by decide) (by decide)]; exact R.1.1.1)) (fun y2 h2 ey2 e2 => ?_)
  simp only [f 322 (by decide) (by decide), f 323 (by decide) (by decide), f 324 (by decide) (by decide), f 325 (by decide) (by decide), f 326 (by decide) (by decide), f 327 (by decide) (by decide), f 328 (by decide) (by decide), f 329 (by decide) (by decide)] at ey2 e2
  have F : ∀ j, j ≠ 322 → h2 j = h1 j := fun j a => by rw [e2]; exact am_row_ne _ _ _ a
  have e322 : h2 322 = rf_oc (h 322) 0 := by rw [e2]; exact am_row_at _ _ _
  have R2 : cl_R r h2 (i + 1) := lp_pure R hp (fun j a b _ => F j a) e322
  have eq12 : y1 = y2 := by rw [ey1, ey2]; exact lp_ga0 rfl
  refine am_icmp_eq (pc := 2706) (tgt := 2798) C dL_law__2706 (by decide) (fun _ => ?_) (fun z => absurd eq12 z)
  refine am_widen (cs' := lp_cs (i + 1)) (show 400 + 5 * i ≤ 400 + 5 * (i + 1) by omega) (show 73000 + 30 * i ≤ 73000 + 30 * (i + 1) by omega) ?_
  exact K r h2 hR R2

set_option maxHeartbeats 1000000 in
set_option maxRecDepth 100000 in
theorem lc_seed {X : am_X} {ad : Nat → Nat} {b L i : Nat} {xs : Nat → Int32} {r : am_R} {h : am_H} (Cx : lp_Cx X ad b L xs) (hi : 6 * i + 6 ≤ L) (hR : am_rs r) (R : cl_R r h i) (K : ∀ r1 h1, am_rs r1 → cl_R r1 h1 (i + 1) → am_G X (am_VV ad) (lp_cs (i + 1)) 2798 (lp_ls i) [] r1 h1) : am_G X (am_VV ad) (lp_cs i) 2711 (lp_ls i) [] r h := by
  obtain ⟨C, S, hb, hL⟩ := id Cx
  have hi2 : i < 512 := by omega
  have hV := R.1.1.1
  have hLo := R.1.2.1
  have hSc := R.1.2.2.1
  refine am_aload_n (pc := 2711) C dL_law__2711 rfl ?_
  refine lp_arg (pc := 2712) (k := 1) Cx hi (by decide) dL_law__2712 dL_law__2713 dL_law__2715 dL_law__2716 dL_law__2717 rfl rfl ?_
  refine lp_cVr (Y := mX11_seed) (pc := 2718) (st := []) (As := [.int (xs (6 * i + 1))]) C dL_law__2718 kL_265 v_X11_seed rfl rfl bn_0 sh_0 ⟨by decide, rfl⟩ (by decide) (lp_leC (show 400 + 5 * i ≤ 600000 by omega)) (lp_leS (show 73000 + 30 * i ≤ 7000000 by omega)) (Nat.le_of_ble_eq_true rfl) (c_X11_seed hR (xs (6 * i + 1)) (h 323) hV hLo hSc) (fun y1 h1 ey1 hp => ?_)
  have hR1 := hR
  have f : ∀ j, 322 ≤ j → j ≠ 335 → h1 j = h j := fun j a _ => hp.2 j (Or.inr (by omega))
  refine am_aload_n (pc := 2721) C dL_law__2721 rfl ?_
  refine lp_arg (pc := 2722) (k := 1) Cx hi (by decide) dL_law__2722 dL_law__2723 dL_law__2725 dL_law__2726 dL_law__2727 rfl rfl ?_
  refine lp_cV (Y := mX12_seed) (pc := 2728) (st := [.int y1]) (As := [.int (xs (6 * i + 1))]) C dL_law__2728 kL_268 v_X12_seed rfl rfl bn_322 sh_322 ⟨by decide, rfl⟩ (by decide) (lp_leC (show 400 + 5 * i ≤ 600000 by omega)) (lp_leS (show 73000 + 30 * i ≤ 7000000 by omega)) (Nat.le_of_ble_eq_true rfl) (c_X12_seed hR1 (xs (6 * i + 1))) (fun y2 h2 ey2 e2 => ?_)
  simp only [f 322 (by decide) (by decide), f 323 (by decide) (by decide), f 324 (by decide) (by decide), f 325 (by decide) (by decide), f 326 (by decide) (by decide), f 327 (by decide) (by decide), f 328 (by decide) (by decide), f 329 (by decide) (by decide)] at ey2 e2
  have F : ∀ j, j ≠ 322 → j ≠ 323 → h2 j = h1 j := fun j a b => by rw [e2, am_row_ne _ _ _ b, am_row_ne _ _ _ a]
  have R2 : cl_R r h2 (i + 1) := R.seed hp.1 hp.2 (fun j a => F j (by omega) (by omega)) (by rw [e2, am_row_ne _ _ _ (by decide), am_row_at]) (by rw [e2, am_row_at]) ((F 324 (by decide) (by decide)).trans (f 324 (by decide) (by decide))) ((F 327 (by decide) (by decide)).trans (f 327 (by decide) (by decide))) ((F 328 (by decide) (by decide)).trans (f 328 (by decide) (by decide)))
  have eq12 : y1 = y2 := by rw [ey1, ey2]
  refine am_icmp_eq (pc := 2731) (tgt := 2798) C dL_law__2731 (by decide) (fun _ => ?_) (fun z => absurd eq12 z)
  refine am_widen (cs' := lp_cs (i + 1)) (show 400 + 5 * i ≤ 400 + 5 * (i + 1) by omega) (show 73000 + 30 * i ≤ 73000 + 30 * (i + 1) by omega) ?_
  exact K r h2 hR R2

set_option maxHeartbeats 1000000 in
set_option maxRecDepth 100000 in
theorem lc_image {X : am_X} {ad : Nat → Nat} {b L i : Nat} {xs : Nat → Int32} {r : am_R} {h : am_H} (Cx : lp_Cx X ad b L xs) (hi : 6 * i + 6 ≤ L) (hR : am_rs r) (R : cl_R r h i) (K : ∀ r1 h1, am_rs r1 → cl_R r1 h1 (i + 1) → am_G X (am_VV ad) (lp_cs (i + 1)) 2798 (lp_ls i) [] r1 h1) : am_G X (am_VV ad) (lp_cs i) 2749 (lp_ls i) [] r h := by
  obtain ⟨C, S, hb, hL⟩ := id Cx
  have hi2 : i < 512 := by omega
  have hV := R.1.1.1
  have hLw := R.1.1.2.1
  have hLo := R.1.2.1
  have hSc := R.1.2.2.1
  have hA := R.1.2.2.2
  refine am_aload_n (pc := 2749) C dL_law__2749 rfl ?_
  refine lp_cVv (Y := mX11_image) (pc := 2750) (st := []) (As := []) C dL_law__2750 kL_274 v_X11_image rfl rfl bn_0 sh_0 ⟨by decide, rfl⟩ (by decide) (lp_leC (show 400 + 5 * i ≤ 600000 by omega)) (lp_leS (show 73000 + 30 * i ≤ 7000000 by omega)) (Nat.le_of_ble_eq_true rfl) (c_X11_image hR (h 323) hV hLo hSc hLw hA) (fun h1 hp => ?_)
  have hR1 := hR
  have f : ∀ j, 322 ≤ j → j ≠ 335 → h1 j = h j := fun j a _ => hp.2.2 j ⟨by omega, Or.inr (by omega)⟩
  refine am_aload_n (pc := 2753) C dL_law__2753 rfl ?_
  refine lp_cVv (Y := mX12_image) (pc := 2754) (st := []) (As := []) C dL_law__2754 kL_277 v_X12_image rfl rfl bn_322 sh_322 ⟨by decide, rfl⟩ (by decide) (lp_leC (show 400 + 5 * i ≤ 600000 by omega)) (lp_leS (show 73000 + 30 * i ≤ 7000000 by omega)) (Nat.le_of_ble_eq_true rfl) (c_X12_image hR) (fun h2 e2 => ?_)
  simp only [f 322 (by decide) (by decide), f 323 (by decide) (by decide), f 324 (by decide) (by decide), f 325 (by decide) (by decide), f 326 (by decide) (by decide), f 327 (by decide) (by decide), f 328 (by decide) (by decide), f 329 (by decide) (by decide)] at e2
  have F : ∀ j, j ≠ 322 → j ≠ 324 → h2 j = h1 j := fun j a b => by rw [e2, am_row_ne _ _ _ b, am_row_ne _ _ _ a]
  have R2 : cl_R r h2 (i + 1) := R.image hp.1.1 hp.1.2.1 hp.1.2.2 hp.2.1.1 hp.2.1.2 hp.2.2 (fun j a => F j (by omega) (by omega)) (by rw [e2, am_row_ne _ _ _ (by decide), am_row_at]) (by rw [e2, am_row_at]) ((F 323 (by decide) (by decide)).trans (f 323 (by decide) (by decide))) ((F 327 (by decide) (by decide)).trans (f 327 (by decide) (by decide))) ((F 328 (by decide) (by decide)).trans (f 328 (by decide) (by decide)))
  refine am_goto (pc := 2757) (tgt := 2798) C dL_law__2757 (by decide) ?_
  refine am_widen (cs' := lp_cs (i + 1)) (show 400 + 5 * i ≤ 400 + 5 * (i + 1) by omega) (show 73000 + 30 * i ≤ 73000 + 30 * (i + 1) by omega) ?_
  exact K r h2 hR R2

set_option maxHeartbeats 1000000 in
set_option maxRecDepth 100000 in
theorem lc_back {X : am_X} {ad : Nat → Nat} {b L i : Nat} {xs : Nat → Int32} {r : am_R} {h : am_H} (Cx : lp_Cx X ad b L xs) (hi : 6 * i + 6 ≤ L) (hR : am_rs r) (R : cl_R r h i) (K : ∀ r1 h1, am_rs r1 → cl_R r1 h1 (i + 1) → am_G X (am_VV ad) (lp_cs (i + 1)) 2798 (lp_ls i) [] r1 h1) : am_G X (am_VV ad) (lp_cs i) 2760 (lp_ls i) [] r h := by
  obtain ⟨C, S, hb, hL⟩ := id Cx
  have hi2 : i < 512 := by omega
  have hV := R.1.1.1
  have hLo := R.1.2.1
  have hSc := R.1.2.2.1
  refine am_aload_n (pc := 2760) C dL_law__2760 rfl ?_
  refine lp_cVr (Y := mX11_back) (pc := 2761) (st := []) (As := []) C dL_law__2761 kL_278 v_X11_back rfl rfl bn_0 sh_0 ⟨by decide, rfl⟩ (by decide) (lp_leC (show 400 + 5 * i ≤ 600000 by omega)) (lp_leS (show 73000 + 30 * i ≤ 7000000 by omega)) (Nat.le_of_ble_eq_true rfl) (c_X11_back hR (h 323) hV hLo hSc (h 324) (fun z => by have q := R.2.2.1.2.2 (fun z2 => z (R.2.2.1.2.1.trans z2)); exact ⟨⟨q.1.1, q.1.2.1⟩, q.2.1, q.2.2.2, q.2.2.1⟩)) (fun y1 h1 ey1 hp => ?_)
  have hR1 := hR
  have f : ∀ j, 322 ≤ j → j ≠ 335 → h1 j = h j := by
    intro j a _
    by_cases z : (h 0) 11 = 0
    · rw [hp.1 z]
    · exact (hp.2 z).2.2 j ⟨by omega, Or.inr (by omega)⟩
  refine am_aload_n (pc := 2764) C dL_law__2764 rfl ?_
  refine lp_cV (Y := mX12_back) (pc := 2765) (st := [.int y1]) (As := []) C dL_law__2765 kL_281 v_X12_back rfl rfl bn_322 sh_322 ⟨by decide, rfl⟩ (by decide) (lp_leC (show 400 + 5 * i ≤ 600000 by omega)) (lp_leS (show 73000 + 30 * i ≤ 7000000 by omega)) (Nat.le_of_ble_eq_true rfl) (c_X12_back hR1) (fun y2 h2 ey2 e2 => ?_)
  simp only [f 322 (by decide) (by decide), f 323 (by decide) (by decide), f 324 (by decide) (by decide), f 325 (by decide) (by decide), f 326 (by decide) (by decide), f 327 (by decide) (by decide), f 328 (by decide) (by decide), f 329 (by decide) (by decide)] at ey2 e2
  have F : ∀ j, j ≠ 322 → j ≠ 323 → h2 j = h1 j := fun j a b => by rw [e2, am_row_ne _ _ _ b, am_row_ne _ _ _ a]
  have R2 : cl_R r h2 (i + 1) := lp_back R hp.1 hp.2 F (by rw [e2, am_row_ne _ _ _ (by decide), am_row_at]) (by rw [e2, am_row_at])
  have eq12 : y1 = y2 := by rw [ey1, ey2, R.2.2.1.2.1]; exact lp_back_a
  refine am_icmp_eq (pc := 2768) (tgt := 2798) C dL_law__2768 (by decide) (fun _ => ?_) (fun z => absurd eq12 z)
  refine am_widen (cs' := lp_cs (i + 1)) (show 400 + 5 * i ≤ 400 + 5 * (i + 1) by omega) (show 73000 + 30 * i ≤ 73000 + 30 * (i + 1) by omega) ?_
  exact K r h2 hR R2

set_option maxHeartbeats 1000000 in
set_option maxRecDepth 100000 in
theorem lc_count {X : am_X} {ad : Nat → Nat} {b L i : Nat} {xs : Nat → Int32} {r : am_R} {h : am_H} (Cx : lp_Cx X ad b L xs) (hi : 6 * i + 6 ≤ L) (hR : am_rs r) (R : cl_R r h i) (K : ∀ r1 h1, am_rs r1 → cl_R r1 h1 (i + 1) → am_G X (am_VV ad) (lp_cs (i + 1)) 2798 (lp_ls i) [] r1 h1) : am_G X (am_VV ad) (lp_cs i) 2773 (lp_ls i) [] r h := by
  obtain ⟨C, S, hb, hL⟩ := id Cx
  have hi2 : i < 512 := by omega
  have hV := R.1.1.1
  have hLo := R.1.2.1
  have hSc := R.1.2.2.1
  have hA := R.1.2.2.2
  have hB2 : rf_n ((h 323) 7) 2147483647 := rf_n_le rfl R.1.1.2.2.2.1 (by omega)
  refine am_aload_n (pc := 2773) C dL_law__2773 rfl ?_
  refine lp_arg (pc := 2774) (k := 1) Cx hi (by decide) dL_law__2774 dL_law__2775 dL_law__2777 dL_law__2778 dL_law__2779 rfl rfl ?_
  refine lp_cVr (Y := mX11_count) (pc := 2780) (st := []) (As := [.int (xs (6 * i + 1))]) C dL_law__2780 kL_282 v_X11_count rfl rfl bn_0 sh_0 ⟨by decide, rfl⟩ (by decide) (lp_leC (show 400 + 5 * i ≤ 600000 by omega)) (lp_leS (show 73000 + 30 * i ≤ 7000000 by omega)) (Nat.le_of_ble_eq_true rfl) (c_X11_count hR (xs (6 * i + 1)) (h 323) hV hLo hSc hB2 hA) (fun y1 h1 ey1 hp => ?_)
  have hR1 := hR
  have f : ∀ j, 322 ≤ j → j ≠ 335 → h1 j = h j := fun j a b => hp j ⟨Or.inr (by omega), Or.inr (by omega), by omega, Or.inr a, b⟩
  refine am_aload_n (pc := 2783) C dL_law__2783 rfl ?_
  refine lp_arg (pc := 2784) (k := 1) Cx hi (by decide) dL_law__2784 dL_law__2785 dL_law__2787 dL_law__2788 dL_law__2789 rfl rfl ?_
  refine lp_cV (Y := mX12_count) (pc := 2790) (st := [.int y1]) (As := [.int (xs (6 * i + 1))]) C dL_law__2790 kL_285 v_X12_count rfl rfl bn_322 sh_322 ⟨by decide, rfl⟩ (by decide) (lp_leC (show 400 + 5 * i ≤ 600000 by omega)) (lp_leS (show 73000 + 30 * i ≤ 7000000 by omega)) (Nat.le_of_ble_eq_true rfl) (c_X12_count hR1 (xs (6 * i + 1)) (show rf_I (h1 323) by rw [f 323 (by decide) (by decide)]; exact R.1.1.1)) (fun y2 h2 ey2 e2 => ?_)
  simp only [f 322 (by decide) (by decide), f 323 (by decide) (by decide), f 324 (by decide) (by decide), f 325 (by decide) (by decide), f 326 (by decide) (by decide), f 327 (by decide) (by decide), f 328 (by decide) (by decide), f 329 (by decide) (by decide)] at ey2 e2
  have F : ∀ j, j ≠ 322 → h2 j = h1 j := fun j a => by rw [e2]; exact am_row_ne _ _ _ a
  have e322 : h2 322 = rf_oc (h 322) 0 := by rw [e2]; exact am_row_at _ _ _
  have R2 : cl_R r h2 (i + 1) := lp_pure R hp (fun j a b _ => F j a) e322
  have eq12 : y1 = y2 := by rw [ey1, ey2, R.2.2.2.2.1.1]; exact lp_ga0 rfl
  refine am_icmp_eq (pc := 2793) (tgt := 2798) C dL_law__2793 (by decide) (fun _ => ?_) (fun z => absurd eq12 z)
  refine am_widen (cs' := lp_cs (i + 1)) (show 400 + 5 * i ≤ 400 + 5 * (i + 1) by omega) (show 73000 + 30 * i ≤ 73000 + 30 * (i + 1) by omega) ?_
  exact K r h2 hR R2
end LC
