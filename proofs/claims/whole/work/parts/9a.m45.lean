/-! THE CLASS'S PUBLIC CALLS: whose the told memories can be -/
section M45
/-- the bytes of the tape: the class keeps them as numbers to 255 -/
def cl_by (f t : Nat → Int32) (n : Nat) : Prop := ∀ k, k < n → ∃ m, m < 256 ∧ f k = nI m ∧ (m < 128 → t k = nI m) ∧ (128 ≤ m → t k < 0)
def cl_k1 (h h9 : am_H) : Prop := ∀ i, i ≠ 1 ∧ (i < 23 ∨ 25 ≤ i) ∧ (i < 40 ∨ 93 ≤ i) ∧ i ≠ 130 ∧ (i < 314 ∨ 322 ≤ i) ∧ i ≠ 335 → h9 i = h i
theorem cl_by_n {f t : Nat → Int32} {n : Nat} (h : cl_by f t n) : ∀ i, i < n → rf_n (f i) 256 := fun i hi => by
  obtain ⟨m, hm, e, -, -⟩ := h i hi
  rw [e]; exact ⟨(congrArg nI (rf_nat_nI (by omega))).symm, by rw [rf_nat_nI (by omega)]; exact hm⟩
theorem cl_tk_in {f : Nat → Int32} {M : Nat} : ∀ {n}, cl_tk f M n = true → ∀ i, i < n → rf_nat (f i) < M
  | 0, _, i, h => absurd h (by omega)
  | n + 1, h, i, hi => by
    rw [cl_tk, Bool.and_eq_true, decide_eq_true_eq] at h
    by_cases e : i = n
    · subst e; exact h.2
    · exact cl_tk_in h.1 i (by omega)
theorem cl_tk_mok {w t : rf_W} {f : Nat → Int32} (hV : rf_I w) : ∀ n, cl_by f t n → cl_tk f (rf_M w) n = rf_mok w t n
  | 0, _ => rfl
  | n + 1, h => by
    have hM : rf_M w < 17 := hV.1.1.2
    rw [cl_tk, rf_mok, cl_tk_mok hV n (fun k hk => h k (by omega))]
    congr 1
    obtain ⟨m, hm, e, a, b⟩ := h n (by omega)
    rw [e, rf_nat_nI (by omega)]
    by_cases q : m < 128
    · rw [a q]
      by_cases q2 : m < rf_M w
      · rw [decide_eq_true q2]; exact ((rf_okN_t (by omega)).mpr ⟨m, q2, rfl⟩).symm
      · rw [decide_eq_false q2]
        exact (ex_okg (by omega) (by rw [nI_ltI (by omega) (by omega)]; omega)).symm
    · rw [decide_eq_false (show ¬ m < rf_M w by omega)]
      exact (ex_okl (b (by omega))).symm
theorem cl_gt7 {x : Int32} (h : ¬ x < nI 8) : nI 7 < x := by
  have := Int32.not_lt.mp h
  rw [Int32.le_iff_toInt_le, nI_toInt (by decide)] at this
  rw [Int32.lt_iff_toInt_lt, nI_toInt (by decide)]; omega
theorem cl_le7 {x : Int32} (h : x < nI 8) : x ≤ nI 7 := by
  rw [Int32.lt_iff_toInt_lt, nI_toInt (by decide)] at h
  rw [Int32.le_iff_toInt_le, nI_toInt (by decide)]; omega
theorem cl_e1 {e : Nat} (h : e < 401) : (nI e - nI 1).toInt = (e : Int) - 1 := by
  by_cases q : e = 0
  · subst q; decide
  · rw [show nI e - nI 1 = nI (e - 1) from pk_sub (by omega), nI_toInt (by omega)]; omega
theorem cl_mis_0 {w t : rf_W} {f : Nat → Int32} {a b k : Int32} (hV : rf_I w) (hz : a = b) (hby : cl_by f t (rf_nat b)) (q : (decide (rf_nat a ≤ 8) && cl_tk f (rf_M w) (rf_nat a)) = false) : rf_mis w t (rf_nat b) k (rf_nat b) = false := by
  rw [hz, cl_tk_mok hV _ hby] at q
  rw [rf_mis]
  rcases Bool.and_eq_false_iff.mp q with h | h
  · rw [h]; rfl
  · rw [h, Bool.and_false]
theorem cl_mis_1 {w t : rf_W} {k : Int32} {e i : Nat} (q : k < -1) : rf_mis w t e k i = false := by
  rw [rf_mis, rf_in_lt q, Bool.and_false]; rfl
theorem cl_mis_2 {w t : rf_W} {b k : Int32} {i : Nat} (hz9 : rf_n b 401) (q : ¬ k < b) : rf_mis w t (rf_nat b) k i = false := by
  have h9 : nI (rf_nat b) - nI 1 < k := by
    have h1 := Int32.not_lt.mp q
    rw [hz9.1, Int32.le_iff_toInt_le, nI_toInt (by have := hz9.2; omega)] at h1
    rw [Int32.lt_iff_toInt_lt, cl_e1 hz9.2]; omega
  rw [rf_mis, rf_in_gt h9, Bool.and_false]; rfl
theorem cl_mis_3 {w t : rf_W} {f : Nat → Int32} {a b k : Int32} (hV : rf_I w) (hz : a = b) (hz9 : rf_n b 401) (hby : cl_by f t (rf_nat b)) (q : (decide (rf_nat a ≤ 8) && cl_tk f (rf_M w) (rf_nat a)) = true) (q1 : ¬ k < -1) (q2 : k < a) : rf_mis w t (rf_nat b) k (rf_nat b) = true := by
  rw [hz, cl_tk_mok hV _ hby, Bool.and_eq_true] at q
  have h9 : k ≤ nI (rf_nat b) - nI 1 := by
    rw [hz, hz9.1, Int32.lt_iff_toInt_lt, nI_toInt (by have := hz9.2; omega)] at q2
    rw [Int32.le_iff_toInt_le, cl_e1 hz9.2]; omega
  rw [rf_mis, q.1, q.2, rf_in_ok q1 (Int32.not_lt.mpr h9)]; rfl
theorem rf_fp_congr {p q : Nat → Bool} : ∀ n k, (∀ s, p s = q s) → rf_fp p n k = rf_fp q n k := fun n k h => by rw [show p = q from funext h]
theorem rf_pk_congr {f g : Nat → Int32} {S n i j : Nat} (h : ∀ i, i < n → f i = g i) (hi : i < n) : rf_pk f S n i j = rf_pk g S n i j := by
  rw [rf_pk, rf_pk]
  exact rf_fp_congr _ _ (fun s => by rw [rf_pkp, rf_pkp, h i hi, rf_ways_congr h _ (by omega)])
theorem rf_gn_congr {f g : Nat → Int32} {S n : Nat} (h : ∀ i, i < n → f i = g i) : ∀ i, i ≤ n → rf_gn f S n i = rf_gn g S n i
  | 0, _ => rfl
  | i + 1, hi => by rw [rf_gn, rf_gn, rf_gn_congr h i (by omega), rf_pk_congr h (by omega)]
theorem cl_mh {w t : rf_W} {f0 f2 f9 : Nat → Int32} {p : Int32} {n : Nat} (hV : rf_I w) (hby : cl_by f2 t n) (hk : cl_tk f2 (rf_M w) n = true) (h9 : ∀ i, i < n → f9 i = f2 i) : ∀ i, i < n → rf_wr f0 (rf_wh w f9 p) n i = rf_wh w t p i := fun i hi => by
  have hM : rf_M w < 17 := hV.1.1.2
  obtain ⟨m, hm, e, a, -⟩ := hby i hi
  have hm2 := cl_tk_in hk i hi
  rw [e, rf_nat_nI (by omega)] at hm2
  rw [rf_wr_in n hi, rf_wh, rf_wh, h9 i hi, e, a (by omega)]
theorem cl_m0 {f row : Nat → Int32} {S n : Nat} (hS : S ≤ 10) : cl_wm f S n row (2 ^ S) 0 = rf_ways f S n n 0 := by
  have := cl_wm_at (f := f) (n := n) (row := row) hS (2 ^ S) (Nat.le_refl _) 0 (by omega) (Nat.pow_pos (by decide)) (by rw [show rf_bc (nI 0) = 0 from rf_bc_0]; exact Nat.zero_le _)
  rw [show rf_bc (nI 0) = 0 from rf_bc_0] at this
  exact this
theorem cl_kN {k b : Int32} (hb : rf_n b 401) (q1 : ¬ k < -1) (q2 : ¬ k = -1) (q3 : k < b) : k = nI (rf_nat k) ∧ rf_nat k < rf_nat b := by
  have h1 := Int32.not_lt.mp q1
  rw [Int32.le_iff_toInt_le, show (-1 : Int32).toInt = -1 from by decide] at h1
  have h2 : k.toInt ≠ -1 := fun z => q2 (Int32.toInt_inj.mp (z.trans (by decide)))
  have h3 : ¬ k < 0 := by rw [Int32.lt_iff_toInt_lt, show (0 : Int32).toInt = 0 from by decide]; omega
  have h4 := rf_row_q (a := k) (n := rf_nat b) (by have := hb.2; omega) h3 (by rw [← hb.1]; exact Int32.not_le.mpr q3)
  exact ⟨h4.2, h4.1⟩
end M45

set_option maxHeartbeats 400000 in
set_option maxRecDepth 100000 in
theorem c_X11_matches {ad : Nat → Nat} {r : am_R} (hR : am_rs r) {h : am_H} (p : Int32) (k : Int32) (w : rf_W) (hV : rf_I w) (hLo : cl_Lo (h) 4 w) (hSc : cl_Sc (h) 25 w) (t : rf_W) (oc : rf_W) (hz : (h 1) 1 = oc 9) (hz9 : rf_n (oc 9) 401) (hby : cl_by (h 2) t (rf_nat (oc 9))) (hh : rf_n (w 5) 1073741824)  : am_XM mX11_matches 7 1 6 [.ref 0, .int p, .int k] (am_VV ad) r h (ex_ret (rf_c_matches w t oc p k) (rf_a_matches w t oc p k) (fun r9 h9 => r9 = r ∧ h9 1 1 = nI 0 ∧ cl_k1 h h9)) (ex_thr ["java/lang/IndexOutOfBoundsException", "java/lang/IllegalArgumentException"] (rf_c_matches w t oc p k) (fun r9 h9 => r9 = r ∧ h9 1 1 = nI 0 ∧ cl_k1 h h9)) := by
  refine am_XM.of (by decide +kernel) (Nat.le_of_ble_eq_true rfl) (by decide) (fun X C T TX => ?_)
  show am_G X (am_VV ad) (0, 0) 0 [(0, .ref 0), (1, .int p), (2, .int k)] [] r h
  have hM9 : rf_M w < 17 := hV.1.1.2
  have hS9 : rf_S w < 11 := hV.1.2.1.2
  have hO9 : rf_O w < 11 := hV.1.2.2.2
  have hsz : rf_n (h 1 1) 401 := by rw [hz]; exact hz9
  have hb2 : ∀ i, i < rf_nat (h 1 1) → rf_n (h 2 i) 256 := fun i hi => cl_by_n hby i (by rw [← hz]; exact hi)
  refine am_aload_n (pc := 0) C dX11_matches_0 rfl ?_
  refine am_getR (pc := 1) (j := 1) C dX11_matches_1 f11_10 bn_0 sh_0 (rf_0_0 hR) ?_
  refine am_getI (pc := 4) C dX11_matches_4 f11_104 bn_1 sh_1 ?_
  refine am_istore_n (pc := 7) (ls' := [(0, .ref 0), (1, .int p), (2, .int k), (3, .int ((h 1) 1))]) C dX11_matches_7 (by decide) rfl ?_
  refine am_aload_n (pc := 8) C dX11_matches_8 rfl ?_
  refine am_getR (pc := 9) (j := 318) C dX11_matches_9 f11_92 bn_0 sh_0 (rf_0_10 hR) ?_
  refine am_aload_n (pc := 12) C dX11_matches_12 rfl ?_
  refine am_getR (pc := 13) (j := 1) C dX11_matches_13 f11_10 bn_0 sh_0 (rf_0_0 hR) ?_
  refine am_callVir (Y := mX0_take) (pc := 16) (st := []) (As := [.ref 1]) (x := (am_b (decide ((rf_nat ((h 1) 1)) ≤ 8) && cl_tk (h 2) (rf_M w) (rf_nat ((h 1) 1))))) (PP := fun c9 => ((decide ((rf_nat ((h 1) 1)) ≤ 8) && cl_tk (h 2) (rf_M w) (rf_nat ((h 1) 1))) = true → c9 318 4 = (h 1) 1 ∧ ∀ i, i < (rf_nat ((h 1) 1)) → c9 319 i = (h 2) i) ∧ cl_fr (h) c9 318 2) C dX11_matches_16 k11_403 v_X0_take rfl rfl bn_318 sh_318 ⟨by decide, rfl⟩ (by decide) (Nat.le_of_ble_eq_true rfl) (Nat.le_of_ble_eq_true rfl) (Nat.le_of_ble_eq_true rfl) (c_X0_take hR w (show rf_I w from hV) (show cl_Lo (h) 4 w from hLo) (show cl_Sc (h) 25 w from hSc) (show rf_n ((h 1) 1) 401 from hsz) (show ∀ i, i < (rf_nat ((h 1) 1)) → rf_n ((h 2) i) 256 from hb2)) (fun g16_0 hg16_0 => ?_)
  obtain ⟨T16, F16⟩ := hg16_0
  refine am_istore (pc := 19) (ls' := [(0, .ref 0), (1, .int p), (2, .int k), (3, .int ((h 1) 1)), (4, .int (am_b (decide ((rf_nat ((h 1) 1)) ≤ 8) && cl_tk (h 2) (rf_M w) (rf_nat ((h 1) 1)))))]) C dX11_matches_19 (by decide) rfl ?_
  refine am_aload_n (pc := 21) C dX11_matches_21 rfl ?_
  refine am_getR (pc := 22) (j := 1) C dX11_matches_22 f11_10 bn_0 sh_0 (rf_0_0 hR) ?_
  refine am_iconstN (pc := 25) (k := 0) C dX11_matches_25 ?_
  refine am_putI (pc := 26) C dX11_matches_26 f11_104 bn_1 sh_1 rfl rfl ?_
  refine am_hp (show am_up g16_0 1 1 (nI 0) = am_row g16_0 1 (upd (g16_0 1) 1 (nI 0)) from am_up_rw _ _ _ _) ?_
  refine am_iload_n (pc := 29) C dX11_matches_29 rfl ?_
  refine am_if_lt (pc := 30) (tgt := 39) C dX11_matches_30 (by decide) (fun q30 => ?_) (fun q30 => ?_)
  · skip
    exact (TX "java/lang/IndexOutOfBoundsException" r (am_row g16_0 1 (upd (g16_0 1) 1 (nI 0))) ⟨0, (show rf_c_matches w t oc p k = 1 from by simp only [rf_c_matches, rf_cb, (rf_in_lt (l := nI 0) (h := nI 7) q30), Bool.not_true, Bool.not_false, cond_true, cond_false]), rfl, ⟨rfl, (by first | (rw [am_row_at]; exact rf_upd_eq) | (rw [am_row_ne _ _ _ (by decide), am_row_ne _ _ _ (by decide), am_row_at]; exact rf_upd_eq)), (fun i9 h9 => by rw [am_row_ne _ _ _ (by omega)]; exact F16 i9 (by omega))⟩⟩ (0, 0) 39 [(0, .ref 0), (1, .int p), (2, .int k), (3, .int ((h 1) 1)), (4, .int (am_b (decide ((rf_nat ((h 1) 1)) ≤ 8) && cl_tk (h 2) (rf_M w) (rf_nat ((h 1) 1)))))] (Nat.le_of_ble_eq_true rfl) (Nat.le_of_ble_eq_true rfl)).2 (Nat.le_of_ble_eq_true rfl) (Nat.le_of_ble_eq_true rfl) ⟨rfl, 247, 407, 251, 42, 46, "no such place", ex_ok_IB, ⟨List.mem_of_getElem? (i := 43) rfl, by decide⟩, dX11_matches_39, dX11_matches_42, Or.inr ⟨dX11_matches_43, rfl⟩, dX11_matches_46, dX11_matches_49⟩ [] (by decide)
  · skip
    refine am_iload_n (pc := 33) C dX11_matches_33 rfl ?_
    refine am_bipush (pc := 34) (v := nI 8) C dX11_matches_34 (by decide) ?_
    refine am_icmp_lt (pc := 36) (tgt := 50) C dX11_matches_36 (by decide) (fun q36 => ?_) (fun q36 => ?_)
    · skip
      refine am_iload (pc := 50) C dX11_matches_50 rfl ?_
      refine am_if_eqB (pc := 52) (tgt := 65) C dX11_matches_52 (by decide) (fun q52 => ?_) (fun q52 => ?_)
      · skip
        exact (TX "java/lang/IllegalArgumentException" r (am_row g16_0 1 (upd (g16_0 1) 1 (nI 0))) ⟨1, (show rf_c_matches w t oc p k = 2 from by simp only [rf_c_matches, rf_cb, (rf_in_ok (l := nI 0) (h := nI 7) q30 (Int32.not_lt.mpr (cl_le7 q36))), (cl_mis_0 hV hz hby q52), Bool.not_true, Bool.not_false, cond_true, cond_false]), rfl, ⟨rfl, (by first | (rw [am_row_at]; exact rf_upd_eq) | (rw [am_row_ne _ _ _ (by decide), am_row_ne _ _ _ (by decide), am_row_at]; exact rf_upd_eq)), (fun i9 h9 => by rw [am_row_ne _ _ _ (by omega)]; exact F16 i9 (by omega))⟩⟩ (0, 0) 65 [(0, .ref 0), (1, .int p), (2, .int k), (3, .int ((h 1) 1)), (4, .int (am_b (decide ((rf_nat ((h 1) 1)) ≤ 8) && cl_tk (h 2) (rf_M w) (rf_nat ((h 1) 1)))))] (Nat.le_of_ble_eq_true rfl) (Nat.le_of_ble_eq_true rfl)).2 (Nat.le_of_ble_eq_true rfl) (Nat.le_of_ble_eq_true rfl) ⟨rfl, 122, 409, 126, 43, 72, "these are no memories, or this is none of them", ex_ok_IA, ⟨List.mem_of_getElem? (i := 44) rfl, by decide⟩, dX11_matches_65, dX11_matches_68, Or.inr ⟨dX11_matches_69, rfl⟩, dX11_matches_72, dX11_matches_75⟩ [] (by decide)
      · skip
        refine am_iload_n (pc := 55) C dX11_matches_55 rfl ?_
        refine am_iconst (pc := 56) (v := -1) C dX11_matches_56 rfl ?_
        refine am_icmp_lt (pc := 57) (tgt := 65) C dX11_matches_57 (by decide) (fun q57 => ?_) (fun q57 => ?_)
        · skip
          exact (TX "java/lang/IllegalArgumentException" r (am_row g16_0 1 (upd (g16_0 1) 1 (nI 0))) ⟨1, (show rf_c_matches w t oc p k = 2 from by simp only [rf_c_matches, rf_cb, (rf_in_ok (l := nI 0) (h := nI 7) q30 (Int32.not_lt.mpr (cl_le7 q36))), (cl_mis_1 (e := rf_nat (oc 9)) q57), Bool.not_true, Bool.not_false, cond_true, cond_false]), rfl, ⟨rfl, (by first | (rw [am_row_at]; exact rf_upd_eq) | (rw [am_row_ne _ _ _ (by decide), am_row_ne _ _ _ (by decide), am_row_at]; exact rf_upd_eq)), (fun i9 h9 => by rw [am_row_ne _ _ _ (by omega)]; exact F16 i9 (by omega))⟩⟩ (0, 0) 65 [(0, .ref 0), (1, .int p), (2, .int k), (3, .int ((h 1) 1)), (4, .int (am_b (decide ((rf_nat ((h 1) 1)) ≤ 8) && cl_tk (h 2) (rf_M w) (rf_nat ((h 1) 1)))))] (Nat.le_of_ble_eq_true rfl) (Nat.le_of_ble_eq_true rfl)).2 (Nat.le_of_ble_eq_true rfl) (Nat.le_of_ble_eq_true rfl) ⟨rfl, 122, 409, 126, 43, 72, "these are no memories, or this is none of them", ex_ok_IA, ⟨List.mem_of_getElem? (i := 44) rfl, by decide⟩, dX11_matches_65, dX11_matches_68, Or.inr ⟨dX11_matches_69, rfl⟩, dX11_matches_72, dX11_matches_75⟩ [] (by decide)
        · skip
          refine am_iload_n (pc := 60) C dX11_matches_60 rfl ?_
          refine am_iload_n (pc := 61) C dX11_matches_61 rfl ?_
          refine am_icmp_lt (pc := 62) (tgt := 76) C dX11_matches_62 (by decide) (fun q62 => ?_) (fun q62 => ?_)
          · skip
            obtain ⟨T4, T9⟩ := T16 q52
            have he8 : rf_nat (h 1 1) ≤ 8 := by rw [Bool.and_eq_true, decide_eq_true_eq] at q52; exact q52.1
            have hk2 : cl_tk (h 2) (rf_M w) (rf_nat (h 1 1)) = true := by rw [Bool.and_eq_true] at q52; exact q52.2
            have hsz81 : rf_n (g16_0 318 4) 9 := by rw [T4]; exact ⟨hsz.1, by omega⟩
            have htl81 : ∀ i, i < rf_nat (g16_0 318 4) → rf_n (g16_0 319 i) (rf_M w) := fun i hi => by rw [T4] at hi; rw [T9 i hi]; exact ⟨(hb2 i hi).1, cl_tk_in hk2 i hi⟩
            have hn9 : rf_nat (oc 9) = rf_nat (g16_0 318 4) := by rw [T4, hz]
            have hE : ∀ i, i < rf_nat (g16_0 318 4) → (rf_wr (g16_0 320) (rf_wh w (g16_0 319) p) (rf_nat (g16_0 318 4))) i = rf_wh w t p i := cl_mh hV (by rw [← hn9]; exact hby) (by rw [T4]; exact hk2) (fun i hi => T9 i (by rw [T4] at hi; exact hi))
            refine am_aload_n (pc := 76) C dX11_matches_76 rfl ?_
            refine am_getR (pc := 77) (j := 318) C dX11_matches_77 f11_92 bn_0 sh_0 (rf_0_10 hR) ?_
            refine am_iload_n (pc := 80) C dX11_matches_80 rfl ?_
            refine am_callVv (Y := mX0_countWays) (pc := 81) (st := []) (As := [.int p]) (h2 := (am_row (am_row (am_row g16_0 1 (upd (g16_0 1) 1 (nI 0))) 320 (rf_wr (g16_0 320) (rf_wh w (g16_0 319) p) (rf_nat ((g16_0 318) 4)))) 321 (cl_wm (rf_wr (g16_0 320) (rf_wh w (g16_0 319) p) (rf_nat ((g16_0 318) 4))) (rf_S w) (rf_nat ((g16_0 318) 4)) (g16_0 321) (2 ^ rf_S w)))) C dX11_matches_81 k11_411 v_X0_countWays rfl rfl bn_318 sh_318 ⟨by decide, rfl⟩ (by decide) (Nat.le_of_ble_eq_true rfl) (Nat.le_of_ble_eq_true rfl) (Nat.le_of_ble_eq_true rfl) (c_X0_countWays hR p w hV (cl_Lo_eq (fun i9 h9 g9 => by rw [am_row_ne _ _ _ (by omega)]) (cl_Lo_eq (fun i a b => F16 i (by omega)) hLo)) (cl_Sc_eq (fun i9 h9 g9 => by rw [am_row_ne _ _ _ (by omega)]) (cl_Sc_eq (fun i a b => F16 i (by omega)) hSc)) (show rf_n ((g16_0 318) 4) 9 from hsz81) (show rf_n (w 5) 1073741824 from hh) (show ∀ i, i < (rf_nat ((g16_0 318) 4)) → rf_n ((g16_0 319) i) (rf_M w) from htl81)) ?_
            refine am_iload_n (pc := 84) C dX11_matches_84 rfl ?_
            refine am_iconst (pc := 85) (v := -1) C dX11_matches_85 rfl ?_
            refine am_icmp_ne (pc := 86) (tgt := 99) C dX11_matches_86 (by decide) (fun q86 => ?_) (fun q86 => ?_)
            · skip
              obtain ⟨nK, mK⟩ := cl_kN (k := k) hsz q57 q86 q62
              have hk9 : rf_nat k < rf_nat (g16_0 318 4) := by rw [T4]; exact mK
              have hWy : cl_Wy (rf_wr (g16_0 320) (rf_wh w (g16_0 319) p) (rf_nat (g16_0 318 4))) (cl_wm (rf_wr (g16_0 320) (rf_wh w (g16_0 319) p) (rf_nat (g16_0 318 4))) (rf_S w) (rf_nat (g16_0 318 4)) (g16_0 321) (2 ^ rf_S w)) (rf_S w) (rf_nat (g16_0 318 4)) := fun j hj hb => cl_wm_at (by omega) _ (Nat.le_refl _) j (by omega) hj hb
              refine am_lsv (ls' := [(0, .ref 0), (1, .int p), (2, .int (nI (rf_nat k))), (3, .int ((h 1) 1)), (4, .int (am_b (decide ((rf_nat ((h 1) 1)) ≤ 8) && cl_tk (h 2) (rf_M w) (rf_nat ((h 1) 1)))))]) (congrArg (fun z9 : Int32 => ([(0, .ref 0), (1, .int p), (2, Value.int z9), (3, .int ((h 1) 1)), (4, .int (am_b (decide ((rf_nat ((h 1) 1)) ≤ 8) && cl_tk (h 2) (rf_M w) (rf_nat ((h 1) 1)))))] : List (Nat × Value))) (show k = (nI (rf_nat k)) from nK)) ?_
              refine am_aload_n (pc := 99) C dX11_matches_99 rfl ?_
              refine am_getR (pc := 100) (j := 318) C dX11_matches_100 f11_92 bn_0 sh_0 (rf_0_10 hR) ?_
              refine am_iload_n (pc := 103) C dX11_matches_103 rfl ?_
              refine am_callVi (Y := mX0_firstGiven) (pc := 104) (st := []) (As := [.int (nI (rf_nat k))]) (x := (if rf_ways (rf_wr (g16_0 320) (rf_wh w (g16_0 319) p) (rf_nat ((g16_0 318) 4))) (rf_S w) (rf_nat ((g16_0 318) 4)) (rf_nat ((g16_0 318) 4)) 0 = 0 then -1 else nI (rf_pk (rf_wr (g16_0 320) (rf_wh w (g16_0 319) p) (rf_nat ((g16_0 318) 4))) (rf_S w) (rf_nat ((g16_0 318) 4)) (rf_nat k) (rf_gn (rf_wr (g16_0 320) (rf_wh w (g16_0 319) p) (rf_nat ((g16_0 318) 4))) (rf_S w) (rf_nat ((g16_0 318) 4)) (rf_nat k))))) (h2 := (am_row (am_row (am_row g16_0 1 (upd (g16_0 1) 1 (nI 0))) 320 (rf_wr (g16_0 320) (rf_wh w (g16_0 319) p) (rf_nat ((g16_0 318) 4)))) 321 (cl_wm (rf_wr (g16_0 320) (rf_wh w (g16_0 319) p) (rf_nat ((g16_0 318) 4))) (rf_S w) (rf_nat ((g16_0 318) 4)) (g16_0 321) (2 ^ rf_S w)))) C dX11_matches_104 k11_417 v_X0_firstGiven rfl rfl bn_318 sh_318 ⟨by decide, rfl⟩ (by decide) (Nat.le_of_ble_eq_true rfl) (Nat.le_of_ble_eq_true rfl) (Nat.le_of_ble_eq_true rfl) (c_X0_firstGiven hR (rf_nat k) w hV (cl_Lo_eq (fun i9 h9 g9 => by rw [am_row_ne _ _ _ (by omega), am_row_ne _ _ _ (by omega), am_row_ne _ _ _ (by omega)]) (cl_Lo_eq (fun i a b => F16 i (by omega)) hLo)) (cl_Sc_eq (fun i9 h9 g9 => by rw [am_row_ne _ _ _ (by omega), am_row_ne _ _ _ (by omega), am_row_ne _ _ _ (by omega)]) (cl_Sc_eq (fun i a b => F16 i (by omega)) hSc)) (show rf_n ((g16_0 318) 4) 9 from hsz81) (show (rf_nat k) < (rf_nat ((g16_0 318) 4)) from hk9) (show cl_Wy (rf_wr (g16_0 320) (rf_wh w (g16_0 319) p) (rf_nat ((g16_0 318) 4))) (cl_wm (rf_wr (g16_0 320) (rf_wh w (g16_0 319) p) (rf_nat ((g16_0 318) 4))) (rf_S w) (rf_nat ((g16_0 318) 4)) (g16_0 321) (2 ^ rf_S w)) (rf_S w) (rf_nat ((g16_0 318) 4)) from hWy)) ?_
              have K9 : rf_c_matches w t oc p k = 0 := (show rf_c_matches w t oc p k = 0 from by simp only [rf_c_matches, rf_cb, (rf_in_ok (l := nI 0) (h := nI 7) q30 (Int32.not_lt.mpr (cl_le7 q36))), (cl_mis_3 hV hz hz9 hby q52 q57 q62), Bool.not_true, Bool.not_false, cond_true, cond_false])
              have A9 : rf_a_matches w t oc p k = (if rf_ways (rf_wr (g16_0 320) (rf_wh w (g16_0 319) p) (rf_nat ((g16_0 318) 4))) (rf_S w) (rf_nat ((g16_0 318) 4)) (rf_nat ((g16_0 318) 4)) 0 = 0 then -1 else nI (rf_pk (rf_wr (g16_0 320) (rf_wh w (g16_0 319) p) (rf_nat ((g16_0 318) 4))) (rf_S w) (rf_nat ((g16_0 318) 4)) (rf_nat k) (rf_gn (rf_wr (g16_0 320) (rf_wh w (g16_0 319) p) (rf_nat ((g16_0 318) 4))) (rf_S w) (rf_nat ((g16_0 318) 4)) (rf_nat k)))) := (by rw [rf_a_matches, if_neg q86, hn9, rf_ways_congr hE _ (Nat.le_refl _) 0, rf_pk_congr hE hk9, rf_gn_congr hE _ (Nat.le_of_lt hk9)])
              exact am_iret T dX11_matches_107 rfl rfl (Nat.le_of_ble_eq_true rfl) (Nat.le_of_ble_eq_true rfl) ⟨K9, by rw [A9], ⟨rfl, (by first | (rw [am_row_at]; exact rf_upd_eq) | (rw [am_row_ne _ _ _ (by decide), am_row_ne _ _ _ (by decide), am_row_at]; exact rf_upd_eq)), (fun i9 h9 => by rw [am_row_ne _ _ _ (by omega), am_row_ne _ _ _ (by omega), am_row_ne _ _ _ (by omega)]; exact F16 i9 (by omega))⟩⟩
            · skip
              refine am_aload_n (pc := 89) C dX11_matches_89 rfl ?_
              refine am_getR (pc := 90) (j := 318) C dX11_matches_90 f11_92 bn_0 sh_0 (rf_0_10 hR) ?_
              refine am_callVi (Y := mX0_allWays) (pc := 93) (st := []) (As := []) (x := ((cl_wm (rf_wr (g16_0 320) (rf_wh w (g16_0 319) p) (rf_nat ((g16_0 318) 4))) (rf_S w) (rf_nat ((g16_0 318) 4)) (g16_0 321) (2 ^ rf_S w)) 0)) (h2 := (am_row (am_row (am_row g16_0 1 (upd (g16_0 1) 1 (nI 0))) 320 (rf_wr (g16_0 320) (rf_wh w (g16_0 319) p) (rf_nat ((g16_0 318) 4)))) 321 (cl_wm (rf_wr (g16_0 320) (rf_wh w (g16_0 319) p) (rf_nat ((g16_0 318) 4))) (rf_S w) (rf_nat ((g16_0 318) 4)) (g16_0 321) (2 ^ rf_S w)))) C dX11_matches_93 k11_414 v_X0_allWays rfl rfl bn_318 sh_318 ⟨by decide, rfl⟩ (by decide) (Nat.le_of_ble_eq_true rfl) (Nat.le_of_ble_eq_true rfl) (Nat.le_of_ble_eq_true rfl) (c_X0_allWays hR w hV (cl_Lo_eq (fun i9 h9 g9 => by rw [am_row_ne _ _ _ (by omega), am_row_ne _ _ _ (by omega), am_row_ne _ _ _ (by omega)]) (cl_Lo_eq (fun i a b => F16 i (by omega)) hLo)) (cl_Sc_eq (fun i9 h9 g9 => by rw [am_row_ne _ _ _ (by omega), am_row_ne _ _ _ (by omega), am_row_ne _ _ _ (by omega)]) (cl_Sc_eq (fun i a b => F16 i (by omega)) hSc))) ?_
              refine am_goto (pc := 96) (tgt := 107) C dX11_matches_96 (by decide) ?_
              have K9 : rf_c_matches w t oc p k = 0 := (show rf_c_matches w t oc p k = 0 from by simp only [rf_c_matches, rf_cb, (rf_in_ok (l := nI 0) (h := nI 7) q30 (Int32.not_lt.mpr (cl_le7 q36))), (cl_mis_3 hV hz hz9 hby q52 q57 q62), Bool.not_true, Bool.not_false, cond_true, cond_false])
              have A9 : rf_a_matches w t oc p k = ((cl_wm (rf_wr (g16_0 320) (rf_wh w (g16_0 319) p) (rf_nat ((g16_0 318) 4))) (rf_S w) (rf_nat ((g16_0 318) 4)) (g16_0 321) (2 ^ rf_S w)) 0) := (by rw [rf_a_matches, if_pos q86, hn9, cl_m0 (by omega)]; exact (rf_ways_congr hE _ (Nat.le_refl _) 0).symm)
              exact am_iret T dX11_matches_107 rfl rfl (Nat.le_of_ble_eq_true rfl) (Nat.le_of_ble_eq_true rfl) ⟨K9, by rw [A9], ⟨rfl, (by first | (rw [am_row_at]; exact rf_upd_eq) | (rw [am_row_ne _ _ _ (by decide), am_row_ne _ _ _ (by decide), am_row_at]; exact rf_upd_eq)), (fun i9 h9 => by rw [am_row_ne _ _ _ (by omega), am_row_ne _ _ _ (by omega), am_row_ne _ _ _ (by omega)]; exact F16 i9 (by omega))⟩⟩
          · skip
            exact (TX "java/lang/IllegalArgumentException" r (am_row g16_0 1 (upd (g16_0 1) 1 (nI 0))) ⟨1, (show rf_c_matches w t oc p k = 2 from by simp only [rf_c_matches, rf_cb, (rf_in_ok (l := nI 0) (h := nI 7) q30 (Int32.not_lt.mpr (cl_le7 q36))), (cl_mis_2 (t := t) hz9 (by rw [← hz]; exact q62)), Bool.not_true, Bool.not_false, cond_true, cond_false]), rfl, ⟨rfl, (by first | (rw [am_row_at]; exact rf_upd_eq) | (rw [am_row_ne _ _ _ (by decide), am_row_ne _ _ _ (by decide), am_row_at]; exact rf_upd_eq)), (fun i9 h9 => by rw [am_row_ne _ _ _ (by omega)]; exact F16 i9 (by omega))⟩⟩ (0, 0) 65 [(0, .ref 0), (1, .int p), (2, .int k), (3, .int ((h 1) 1)), (4, .int (am_b (decide ((rf_nat ((h 1) 1)) ≤ 8) && cl_tk (h 2) (rf_M w) (rf_nat ((h 1) 1)))))] (Nat.le_of_ble_eq_true rfl) (Nat.le_of_ble_eq_true rfl)).2 (Nat.le_of_ble_eq_true rfl) (Nat.le_of_ble_eq_true rfl) ⟨rfl, 122, 409, 126, 43, 72, "these are no memories, or this is none of them", ex_ok_IA, ⟨List.mem_of_getElem? (i := 44) rfl, by decide⟩, dX11_matches_65, dX11_matches_68, Or.inr ⟨dX11_matches_69, rfl⟩, dX11_matches_72, dX11_matches_75⟩ [] (by decide)
    · skip
      exact (TX "java/lang/IndexOutOfBoundsException" r (am_row g16_0 1 (upd (g16_0 1) 1 (nI 0))) ⟨0, (show rf_c_matches w t oc p k = 1 from by simp only [rf_c_matches, rf_cb, (rf_in_gt (l := nI 0) (h := nI 7) (cl_gt7 q36)), Bool.not_true, Bool.not_false, cond_true, cond_false]), rfl, ⟨rfl, (by first | (rw [am_row_at]; exact rf_upd_eq) | (rw [am_row_ne _ _ _ (by decide), am_row_ne _ _ _ (by decide), am_row_at]; exact rf_upd_eq)), (fun i9 h9 => by rw [am_row_ne _ _ _ (by omega)]; exact F16 i9 (by omega))⟩⟩ (0, 0) 39 [(0, .ref 0), (1, .int p), (2, .int k), (3, .int ((h 1) 1)), (4, .int (am_b (decide ((rf_nat ((h 1) 1)) ≤ 8) && cl_tk (h 2) (rf_M w) (rf_nat ((h 1) 1)))))] (Nat.le_of_ble_eq_true rfl) (Nat.le_of_ble_eq_true rfl)).2 (Nat.le_of_ble_eq_true rfl) (Nat.le_of_ble_eq_true rfl) ⟨rfl, 247, 407, 251, 42, 46, "no such place", ex_ok_IB, ⟨List.mem_of_getElem? (i := 43) rfl, by decide⟩, dX11_matches_39, dX11_matches_42, Or.inr ⟨dX11_matches_43, rfl⟩, dX11_matches_46, dX11_matches_49⟩ [] (by decide)

