/-! THE CLASS: whom a shot takes, at whom one shoots, shots that are outlasted -/
section M19
variable {w : rf_W}
theorem rf_falls_ge (hI : rf_I w) {known : Int32} {m : Nat} (hm : m < rf_M w) : 0 ≤ rf_falls w known m := by
  rw [rf_falls_eq hI hm]
  have := rf_bc_le (rf_usable w known &&& (rf_rests w m ||| (nI 1 <<< (nI m &&& 31))))
  rw [show (0 : Int32) = nI 0 from rfl, nI_leI (by omega) (by omega)]
  omega
def rf_mo (w : rf_W) (known : Int32) (b : Nat) : Int32 := if b = 0 then -1 else rf_falls w known (b - 1)
theorem rf_mo_ge (hI : rf_I w) {known : Int32} {b : Nat} (hb : b ≤ rf_M w) : (-1 : Int32) ≤ rf_mo w known b := by
  rw [rf_mo]
  by_cases h : b = 0
  · rw [if_pos h]; exact Int32.le_refl _
  · rw [if_neg h]; exact Int32.le_trans (by decide) (rf_falls_ge hI (by omega))
theorem rf_mo_no (hI : rf_I w) {known : Int32} {b m : Nat} (hm : m < rf_M w) (hb : b ≤ rf_M w) (h : rf_falls w known m ≤ rf_mo w known b) : ¬ (b = 0 ∨ rf_falls w known (b - 1) < rf_falls w known m) := by
  rw [rf_mo] at h
  rintro (e | e)
  · rw [if_pos e] at h
    exact absurd (Int32.le_trans (rf_falls_ge hI hm) h) (by decide)
  · by_cases h0 : b = 0
    · rw [if_pos h0] at h
      exact absurd (Int32.le_trans (rf_falls_ge hI hm) h) (by decide)
    · rw [if_neg h0] at h
      exact absurd e (Int32.not_lt.mpr h)
theorem rf_mo_yes {known : Int32} {b m : Nat} (h : ¬ rf_falls w known m ≤ rf_mo w known b) : b = 0 ∨ rf_falls w known (b - 1) < rf_falls w known m := by
  by_cases h0 : b = 0
  · exact Or.inl h0
  · rw [rf_mo, if_neg h0] at h
    exact Or.inr (Int32.not_le.mp h)
theorem rf_tk_n {known : Int32} {m : Nat} (h : ¬ (am_bt known m = true ∧ (rf_tk w known m = 0 ∨ rf_falls w known (rf_tk w known m - 1) < rf_falls w known m))) : rf_tk w known m = rf_tk w known (m + 1) := by rw [rf_tk, if_neg h]
theorem rf_mo_new {known : Int32} {m : Nat} (h : am_bt known m = true ∧ (rf_tk w known m = 0 ∨ rf_falls w known (rf_tk w known m - 1) < rf_falls w known m)) : rf_falls w known m = rf_mo w known (rf_tk w known (m + 1)) := by
  rw [rf_tk, if_pos h, rf_mo, if_neg (by omega), Nat.add_sub_cancel]
def rf_mst (w : rf_W) (b : Nat) : Nat := if b = 0 then 0 else rf_kn w (b - 1)
theorem rf_mst_lt (hI : rf_I w) {b : Nat} (hb : b ≤ rf_S w) : rf_mst w b < 13 := by
  rw [rf_mst]
  split
  · omega
  · exact (hI.2.1 (b - 1) (by omega)).2.2.2.2.1.2
theorem rf_mst_no {b o : Nat} (h : rf_kn w o ≤ rf_mst w b) : ¬ (0 < rf_kn w o ∧ (b = 0 ∨ rf_kn w (b - 1) < rf_kn w o)) := by
  rw [rf_mst] at h
  split at h <;> omega
theorem rf_mst_yes {b o : Nat} (h : rf_mst w b < rf_kn w o) : 0 < rf_kn w o ∧ (b = 0 ∨ rf_kn w (b - 1) < rf_kn w o) := by
  rw [rf_mst] at h
  split at h <;> omega
theorem rf_tgt_n {foes : Int32} {o : Nat} (h : ¬ (am_bt foes o = true ∧ 0 < rf_kn w o ∧ (rf_tgt w foes o = 0 ∨ rf_kn w (rf_tgt w foes o - 1) < rf_kn w o))) : rf_tgt w foes o = rf_tgt w foes (o + 1) := by rw [rf_tgt, if_neg h]
theorem rf_mst_new {foes : Int32} {o : Nat} (h : am_bt foes o = true ∧ 0 < rf_kn w o ∧ (rf_tgt w foes o = 0 ∨ rf_kn w (rf_tgt w foes o - 1) < rf_kn w o)) : rf_kn w o = rf_mst w (rf_tgt w foes (o + 1)) := by
  rw [rf_tgt, if_pos h, rf_mst, if_neg (by omega), Nat.add_sub_cancel]
theorem rf_foe_bt (hI : rf_I w) {s o : Nat} (ho : o < rf_S w) : am_bt (rf_sideIn w (nI 1 - rf_of w s 0) (rf_pl w s)) o = (decide (rf_of w o 0 = nI 1 - rf_of w s 0) && decide (rf_pl w o = rf_pl w s)) := by
  have hS : rf_S w < 11 := hI.1.2.1.2
  rw [rf_sideIn, rf_set_bt (by omega) _ (by omega), decide_eq_true ho, Bool.true_and]
theorem rf_side_ne (hI : rf_I w) {s o : Nat} (hs : s < rf_S w) (ho : o < rf_S w) : rf_of w o 0 = nI 1 - rf_of w s 0 ↔ ¬ rf_of w s 0 = rf_of w o 0 := by
  obtain ⟨e1, h1⟩ := (hI.2.1 s hs).1
  obtain ⟨e2, h2⟩ := (hI.2.1 o ho).1
  rw [e1, e2]
  generalize rf_nat (rf_of w s 0) = a at h1
  generalize rf_nat (rf_of w o 0) = b at h2
  have : ∀ a, a < 2 → ∀ b, b < 2 → (nI b = nI 1 - nI a ↔ ¬ nI a = nI b) := by decide
  exact this a h1 b h2
theorem rf_foe_no (hI : rf_I w) {s o : Nat} (hs : s < rf_S w) (ho : o < rf_S w) (e : rf_of w s 0 = rf_of w o 0) : ¬ am_bt (rf_sideIn w (nI 1 - rf_of w s 0) (rf_pl w s)) o = true := by
  rw [rf_foe_bt hI ho, decide_eq_false (fun z => (rf_side_ne hI hs ho).mp z e)]
  exact Bool.false_ne_true
theorem rf_foe_no2 (hI : rf_I w) {s o : Nat} (_hs : s < rf_S w) (ho : o < rf_S w) (e : ¬ rf_pl w s = rf_pl w o) : ¬ am_bt (rf_sideIn w (nI 1 - rf_of w s 0) (rf_pl w s)) o = true := by
  rw [rf_foe_bt hI ho, decide_eq_false (fun z => e (Eq.symm z)), Bool.and_false]
  exact Bool.false_ne_true
theorem rf_foe_yes (hI : rf_I w) {s o : Nat} (hs : s < rf_S w) (ho : o < rf_S w) (e1 : ¬ rf_of w s 0 = rf_of w o 0) (e2 : rf_pl w s = rf_pl w o) : am_bt (rf_sideIn w (nI 1 - rf_of w s 0) (rf_pl w s)) o = true := by
  rw [rf_foe_bt hI ho, decide_eq_true ((rf_side_ne hI hs ho).mpr e1), decide_eq_true e2.symm]
  rfl
/-- what a memory needs in all, itself among it, lies in the first t -/
theorem rf_sh_iff (hI : rf_I w) {s m t : Nat} (hs : s < rf_S w) (hm : m < rf_M w) (hu : am_bt (rf_use w s) m = true) (ht : t ≤ rf_kn w s) : am_bt (rf_usable w (rf_first w s t)) m = true ↔ ∀ i, t ≤ i → i < rf_kn w s → am_bt (rf_bears w m ||| (nI 1 <<< (nI m &&& 31))) (rf_li w s i) = false := by
  have hM : rf_M w < 17 := hI.1.1.2
  have hIs := hI.2.1 s hs
  have hk : rf_kn w s < 13 := hIs.2.2.2.2.1.2
  have hf : ∀ t, t ≤ rf_kn w s → ∀ j, j < 32 → (am_bt (rf_first w s t) j = true ↔ ∃ k, k < t ∧ rf_li w s k = j) := fun t ht j hj => by
    rw [rf_first, Nat.min_eq_right ht]
    exact rf_bits_bt hj _ (fun k hk' => by have := rf_li_lt hIs (show k < rf_kn w s by omega); omega)
  have hall := (rf_usable_bt hI (known := rf_known w s) hm).mp hu
  have hnd : ∀ j, j < 32 → (am_bt (rf_bears w m ||| (nI 1 <<< (nI m &&& 31))) j = true ↔ am_bt (rf_bears w m) j = true ∨ j = m) := fun j hj => by
    rw [am_bt_or, am_bt_1 (by omega) hj, Bool.or_eq_true, decide_eq_true_eq]
  have hneed : ∀ j, j < 32 → am_bt (rf_bears w m ||| (nI 1 <<< (nI m &&& 31))) j = true → am_bt (rf_known w s) j = true := fun j hj h => by
    rcases (hnd j hj).mp h with h | h
    · exact hall.2 j hj h
    · rw [h]; exact hall.1
  rw [rf_usable_bt hI hm]
  constructor
  · rintro ⟨h1, h2⟩ i hi hik
    have hlt := rf_li_lt hIs hik
    cases hb : am_bt (rf_bears w m ||| (nI 1 <<< (nI m &&& 31))) (rf_li w s i) with
    | false => rfl
    | true =>
      have hin : am_bt (rf_first w s t) (rf_li w s i) = true := by
        rcases (hnd _ (by omega)).mp hb with h | h
        · exact h2 _ (by omega) h
        · rw [h]; exact h1
      obtain ⟨k, hk1, hk2⟩ := (hf t ht _ (by omega)).mp hin
      have := hIs.2.2.2.2.2.2.1 k i (by omega) hik hk2
      omega
  · intro h
    have key : ∀ j, j < 32 → am_bt (rf_bears w m ||| (nI 1 <<< (nI m &&& 31))) j = true → am_bt (rf_first w s t) j = true := fun j hj hb => by
      obtain ⟨k, hk1, hk2⟩ := (rf_known_bt hIs hM hj).mp (hneed j hj hb)
      refine (hf t ht j hj).mpr ⟨k, ?_, hk2⟩
      rcases Nat.lt_or_ge k t with q | q
      · exact q
      · rw [← hk2, h k q hk1] at hb; exact absurd hb Bool.false_ne_true
    exact ⟨key m (by omega) ((hnd m (by omega)).mpr (Or.inr rfl)), fun k hk2 hb => key k hk2 ((hnd k hk2).mpr (Or.inl hb))⟩
theorem rf_sh_any (hI : rf_I w) {s m : Nat} (hs : s < rf_S w) (hm : m < rf_M w) (h : ∀ i, 0 ≤ i → i < rf_kn w s → am_bt (rf_bears w m ||| (nI 1 <<< (nI m &&& 31))) (rf_li w s i) = false) : ¬ am_bt (rf_use w s) m = true := by
  intro hu
  have hM : rf_M w < 17 := hI.1.1.2
  have hIs := hI.2.1 s hs
  obtain ⟨k, hk1, hk2⟩ := (rf_known_bt hIs hM (show m < 32 by omega)).mp ((rf_usable_bt hI (known := rf_known w s) hm).mp hu).1
  have := h k (Nat.zero_le k) hk1
  rw [hk2, am_bt_or, am_bt_1 (by omega) (by omega), decide_eq_true rfl, Bool.or_true] at this
  exact absurd this (by decide)
theorem rf_shn_eq (hI : rf_I w) {s m j : Nat} (hs : s < rf_S w) (hm : m < rf_M w) (hu : am_bt (rf_use w s) m = true) (hj : j < rf_kn w s) (hb : am_bt (rf_bears w m ||| (nI 1 <<< (nI m &&& 31))) (rf_li w s j) = true) (hno : ∀ i, j + 1 ≤ i → i < rf_kn w s → am_bt (rf_bears w m ||| (nI 1 <<< (nI m &&& 31))) (rf_li w s i) = false) : rf_shn w s m (rf_kn w s - 1) 1 = rf_kn w s - j := by
  have key : ∀ f n, 1 ≤ n → n ≤ rf_kn w s - j → rf_kn w s - j ≤ n + f → rf_shn w s m f n = rf_kn w s - j := by
    intro f
    induction f with
    | zero => intro n h1 h2 h3; rw [rf_shn]; omega
    | succ f ih =>
      intro n h1 h2 h3
      rw [rf_shn]
      by_cases e : n = rf_kn w s - j
      · rw [if_neg]
        · exact e
        · intro z
          have := (rf_sh_iff hI hs hm hu (show rf_kn w s - n ≤ rf_kn w s by omega)).mp z j (by omega) hj
          rw [hb] at this
          exact absurd this (by decide)
      · rw [if_pos ((rf_sh_iff hI hs hm hu (by omega)).mpr (fun i hi hik => hno i (by omega) hik))]
        exact ih (n + 1) (by omega) (by omega) (by omega)
  exact key _ 1 (Nat.le_refl 1) (by omega) (by omega)
theorem rf_pe_f {set : Int32} {n i : Nat} (hi : i < n) (h : rf_pe w set (i + 1) = false) : rf_pe w set n = false := by
  induction n with
  | zero => omega
  | succ n ih =>
    by_cases e : i = n
    · subst e; exact h
    · rw [rf_pe, ih (by omega)]; rfl
end M19

set_option maxHeartbeats 400000 in
set_option maxRecDepth 100000 in
theorem c_X10_dearestOf {ad : Nat → Nat} {r : am_R} (hR : am_rs r) {h : am_H} (s : Nat) (w : rf_W) (hV : rf_I w) (hLo : cl_Lo (h) 4 w) (hSc : cl_Sc (h) 25 w) (hs : s < rf_S w)  : am_CM mX10_dearestOf 2 0 0 [.ref 3, .int (nI s)] (am_VV ad) r h (am_po (some (.int (am_oi (rf_tk w (rf_known w s) (rf_M w))))) r h) := by
  refine am_CM.of (by decide +kernel) (Nat.le_of_ble_eq_true rfl) (fun X C T => ?_)
  show am_G X (am_VV ad) (0, 0) 0 [(0, .ref 3), (1, .int (nI s))] [] r h
  have hM9 : rf_M w < 17 := hV.1.1.2
  have hS9 : rf_S w < 11 := hV.1.2.1.2
  have hO9 : rf_O w < 11 := hV.1.2.2.2
  refine am_aload_n (pc := 0) C dX10_dearestOf_0 rfl ?_
  refine am_getR (pc := 1) (j := 25) C dX10_dearestOf_1 f10_22 bn_3 sh_3 (rf_3_2 hR) ?_
  refine am_getR (pc := 4) (j := 29) C dX10_dearestOf_4 f10_61 bn_25 sh_25 (rf_25_8 hR) ?_
  refine am_iload_n (pc := 7) C dX10_dearestOf_7 rfl ?_
  refine am_callSNi (Y := mX11_pick) (pc := 8) (st := []) (As := [.ref 29, .int (nI s)]) (x := ((h 29) s)) (h2 := h) C dX10_dearestOf_8 k10_54 v_X11_pick rfl rfl (by decide) (Nat.zero_le _) (Nat.zero_le _) (Nat.le_of_ble_eq_true rfl) (c_X11_pick 29 s 10 bn_29 sh_29 (show s < 10 from by omega) (by decide)) ?_
  refine am_top (show ((h 29) s) = (rf_known w s) from (hSc.2.1 s (by omega)).2.2.2.1) ?_
  refine am_istore_n (pc := 11) (ls' := [(0, .ref 3), (1, .int (nI s)), (2, .int (rf_known w s))]) C dX10_dearestOf_11 (by decide) rfl ?_
  refine am_iconst (pc := 12) (v := -1) C dX10_dearestOf_12 rfl ?_
  refine am_istore_n (pc := 13) (ls' := [(0, .ref 3), (1, .int (nI s)), (2, .int (rf_known w s)), (3, .int (-1))]) C dX10_dearestOf_13 (by decide) rfl ?_
  refine am_iconst (pc := 14) (v := -1) C dX10_dearestOf_14 rfl ?_
  refine am_istore (pc := 15) (ls' := [(0, .ref 3), (1, .int (nI s)), (2, .int (rf_known w s)), (3, .int (-1)), (4, .int (-1))]) C dX10_dearestOf_15 (by decide) rfl ?_
  refine am_iconstN (pc := 17) (k := 0) C dX10_dearestOf_17 ?_
  refine am_istore (pc := 18) (ls' := [(0, .ref 3), (1, .int (nI s)), (2, .int (rf_known w s)), (3, .int (-1)), (4, .int (-1)), (5, .int (nI 0))]) C dX10_dearestOf_18 (by decide) rfl ?_
  have L20 : ∀ (j20 i20 : Nat), i20 + j20 = rf_M w → am_G X (am_VV ad) (0, 0) 20 [(0, .ref 3), (1, .int (nI s)), (2, .int (rf_known w s)), (3, .int (am_oi (rf_tk w (rf_known w s) i20))), (4, .int (rf_mo w (rf_known w s) (rf_tk w (rf_known w s) i20))), (5, .int (nI i20))] [] r h := by
    intro j20
    induction j20 with
    | zero =>
      intro i20 hi20 
      obtain rfl : i20 = rf_M w := by omega
      refine am_iload (pc := 20) C dX10_dearestOf_20 rfl ?_
      refine am_aload_n (pc := 22) C dX10_dearestOf_22 rfl ?_
      refine am_getR (pc := 23) (j := 4) C dX10_dearestOf_23 f10_9 bn_3 sh_3 (rf_3_0 hR) ?_
      refine am_getI (pc := 26) C dX10_dearestOf_26 f10_129 bn_4 sh_4 ?_
      refine am_top (show ((h 4) 1) = (nI (rf_M w)) from (hLo.1.2.1.trans hV.1.1.1)) ?_
      refine am_icmp_geN (pc := 29) (tgt := 74) C dX10_dearestOf_29 (by decide) (by omega) (by omega) (fun q29 => ?_) (fun q29 => ?_)
      · skip
        refine am_iload_n (pc := 74) C dX10_dearestOf_74 rfl ?_
        exact am_ireti T dX10_dearestOf_75 rfl (Nat.le_refl _) (Nat.le_refl _) rfl rfl rfl
      · skip
        exact absurd q29 (by omega)
    | succ j20 ih20 =>
      intro i20 hi20 
      have hl20 : i20 < rf_M w := by omega
      have ht9 := rf_tk_le w (rf_known w s) i20
      refine am_iload (pc := 20) C dX10_dearestOf_20 rfl ?_
      refine am_aload_n (pc := 22) C dX10_dearestOf_22 rfl ?_
      refine am_getR (pc := 23) (j := 4) C dX10_dearestOf_23 f10_9 bn_3 sh_3 (rf_3_0 hR) ?_
      refine am_getI (pc := 26) C dX10_dearestOf_26 f10_129 bn_4 sh_4 ?_
      refine am_top (show ((h 4) 1) = (nI (rf_M w)) from (hLo.1.2.1.trans hV.1.1.1)) ?_
      refine am_icmp_geN (pc := 29) (tgt := 74) C dX10_dearestOf_29 (by decide) (by omega) (by omega) (fun q29 => ?_) (fun q29 => ?_)
      · skip
        exact absurd q29 (by omega)
      · skip
        refine am_iload_n (pc := 32) C dX10_dearestOf_32 rfl ?_
        refine am_iload (pc := 33) C dX10_dearestOf_33 rfl ?_
        refine am_callSNi (Y := mX11_has) (pc := 35) (st := []) (As := [.int (rf_known w s), .int (nI i20)]) (x := (am_b (am_bt (rf_known w s) i20))) (h2 := h) C dX10_dearestOf_35 k10_67 v_X11_has rfl rfl (by decide) (Nat.zero_le _) (Nat.zero_le _) (Nat.le_of_ble_eq_true rfl) (c_X11_has (rf_known w s) i20 (show i20 < 32 from by omega)) ?_
        refine am_if_eqB (pc := 38) (tgt := 51) C dX10_dearestOf_38 (by decide) (fun q38 => ?_) (fun q38 => ?_)
        · skip
          refine am_iconst (pc := 51) (v := -1) C dX10_dearestOf_51 rfl ?_
          refine am_istore (pc := 52) (ls' := [(0, .ref 3), (1, .int (nI s)), (2, .int (rf_known w s)), (3, .int (am_oi (rf_tk w (rf_known w s) i20))), (4, .int (rf_mo w (rf_known w s) (rf_tk w (rf_known w s) i20))), (5, .int (nI i20)), (6, .int (-1))]) C dX10_dearestOf_52 (by decide) rfl ?_
          refine am_iload (pc := 54) C dX10_dearestOf_54 rfl ?_
          refine am_iload (pc := 56) C dX10_dearestOf_56 rfl ?_
          refine am_icmp_le (pc := 58) (tgt := 68) C dX10_dearestOf_58 (by decide) (fun q58 => ?_) (fun q58 => ?_)
          · skip
            refine am_iincN (pc := 68) (ls' := [(0, .ref 3), (1, .int (nI s)), (2, .int (rf_known w s)), (3, .int (am_oi (rf_tk w (rf_known w s) i20))), (4, .int (rf_mo w (rf_known w s) (rf_tk w (rf_known w s) i20))), (5, .int (nI (i20 + 1))), (6, .int (-1))]) C dX10_dearestOf_68 rfl (am_up1 _) (by decide) rfl ?_
            refine am_goto (pc := 71) (tgt := 20) C dX10_dearestOf_71 (by decide) ?_
            refine am_sub (ls' := [(0, .ref 3), (1, .int (nI s)), (2, .int (rf_known w s)), (3, .int (am_oi (rf_tk w (rf_known w s) i20))), (4, .int (rf_mo w (rf_known w s) (rf_tk w (rf_known w s) i20))), (5, .int (nI (i20 + 1)))]) (by intro q hq; simp only [List.mem_cons, List.not_mem_nil, or_false] at hq ⊢; rcases hq with rfl | rfl | rfl | rfl | rfl | rfl <;> simp) ?_
            refine am_lsv (ls' := [(0, .ref 3), (1, .int (nI s)), (2, .int (rf_known w s)), (3, .int (am_oi (rf_tk w (rf_known w s) (i20 + 1)))), (4, .int (rf_mo w (rf_known w s) (rf_tk w (rf_known w s) i20))), (5, .int (nI (i20 + 1)))]) (congrArg (fun z9 : Int32 => ([(0, .ref 3), (1, .int (nI s)), (2, .int (rf_known w s)), (3, Value.int z9), (4, .int (rf_mo w (rf_known w s) (rf_tk w (rf_known w s) i20))), (5, .int (nI (i20 + 1)))] : List (Nat × Value))) (show (am_oi (rf_tk w (rf_known w s) i20)) = (am_oi (rf_tk w (rf_known w s) (i20 + 1))) from rf_tk_no (fun z => Bool.false_ne_true (q38.symm.trans z.1)))) ?_
            refine am_lsv (ls' := [(0, .ref 3), (1, .int (nI s)), (2, .int (rf_known w s)), (3, .int (am_oi (rf_tk w (rf_known w s) (i20 + 1)))), (4, .int (rf_mo w (rf_known w s) (rf_tk w (rf_known w s) (i20 + 1)))), (5, .int (nI (i20 + 1)))]) (congrArg (fun z9 : Int32 => ([(0, .ref 3), (1, .int (nI s)), (2, .int (rf_known w s)), (3, .int (am_oi (rf_tk w (rf_known w s) (i20 + 1)))), (4, Value.int z9), (5, .int (nI (i20 + 1)))] : List (Nat × Value))) (show (rf_mo w (rf_known w s) (rf_tk w (rf_known w s) i20)) = (rf_mo w (rf_known w s) (rf_tk w (rf_known w s) (i20 + 1))) from congrArg (rf_mo w _) (rf_tk_n (fun z => Bool.false_ne_true (q38.symm.trans z.1))))) ?_
            exact ih20 (i20 + 1) (by omega) 
          · skip
            exact absurd (rf_mo_ge hV (by omega)) q58
        · skip
          refine am_aload_n (pc := 41) C dX10_dearestOf_41 rfl ?_
          refine am_iload_n (pc := 42) C dX10_dearestOf_42 rfl ?_
          refine am_iload (pc := 43) C dX10_dearestOf_43 rfl ?_
          refine am_callVi (Y := mX10_fallsOf) (pc := 45) (st := []) (As := [.int (nI s), .int (nI i20)]) (x := (rf_falls w (rf_known w s) i20)) (h2 := h) C dX10_dearestOf_45 k10_132 v_X10_fallsOf rfl rfl bn_3 sh_3 ⟨by decide, rfl⟩ (by decide) (Nat.zero_le _) (Nat.zero_le _) (Nat.le_of_ble_eq_true rfl) (c_X10_fallsOf hR s i20 w hV hLo hSc hs (show i20 < rf_M w from by omega)) ?_
          refine am_goto (pc := 48) (tgt := 52) C dX10_dearestOf_48 (by decide) ?_
          refine am_istore (pc := 52) (ls' := [(0, .ref 3), (1, .int (nI s)), (2, .int (rf_known w s)), (3, .int (am_oi (rf_tk w (rf_known w s) i20))), (4, .int (rf_mo w (rf_known w s) (rf_tk w (rf_known w s) i20))), (5, .int (nI i20)), (6, .int (rf_falls w (rf_known w s) i20))]) C dX10_dearestOf_52 (by decide) rfl ?_
          refine am_iload (pc := 54) C dX10_dearestOf_54 rfl ?_
          refine am_iload (pc := 56) C dX10_dearestOf_56 rfl ?_
          refine am_icmp_le (pc := 58) (tgt := 68) C dX10_dearestOf_58 (by decide) (fun q58 => ?_) (fun q58 => ?_)
          · skip
            refine am_iincN (pc := 68) (ls' := [(0, .ref 3), (1, .int (nI s)), (2, .int (rf_known w s)), (3, .int (am_oi (rf_tk w (rf_known w s) i20))), (4, .int (rf_mo w (rf_known w s) (rf_tk w (rf_known w s) i20))), (5, .int (nI (i20 + 1))), (6, .int (rf_falls w (rf_known w s) i20))]) C dX10_dearestOf_68 rfl (am_up1 _) (by decide) rfl ?_
            refine am_goto (pc := 71) (tgt := 20) C dX10_dearestOf_71 (by decide) ?_
            refine am_sub (ls' := [(0, .ref 3), (1, .int (nI s)), (2, .int (rf_known w s)), (3, .int (am_oi (rf_tk w (rf_known w s) i20))), (4, .int (rf_mo w (rf_known w s) (rf_tk w (rf_known w s) i20))), (5, .int (nI (i20 + 1)))]) (by intro q hq; simp only [List.mem_cons, List.not_mem_nil, or_false] at hq ⊢; rcases hq with rfl | rfl | rfl | rfl | rfl | rfl <;> simp) ?_
            refine am_lsv (ls' := [(0, .ref 3), (1, .int (nI s)), (2, .int (rf_known w s)), (3, .int (am_oi (rf_tk w (rf_known w s) (i20 + 1)))), (4, .int (rf_mo w (rf_known w s) (rf_tk w (rf_known w s) i20))), (5, .int (nI (i20 + 1)))]) (congrArg (fun z9 : Int32 => ([(0, .ref 3), (1, .int (nI s)), (2, .int (rf_known w s)), (3, Value.int z9), (4, .int (rf_mo w (rf_known w s) (rf_tk w (rf_known w s) i20))), (5, .int (nI (i20 + 1)))] : List (Nat × Value))) (show (am_oi (rf_tk w (rf_known w s) i20)) = (am_oi (rf_tk w (rf_known w s) (i20 + 1))) from rf_tk_no (fun z => rf_mo_no hV hl20 (by omega) q58 z.2))) ?_
            refine am_lsv (ls' := [(0, .ref 3), (1, .int (nI s)), (2, .int (rf_known w s)), (3, .int (am_oi (rf_tk w (rf_known w s) (i20 + 1)))), (4, .int (rf_mo w (rf_known w s) (rf_tk w (rf_known w s) (i20 + 1)))), (5, .int (nI (i20 + 1)))]) (congrArg (fun z9 : Int32 => ([(0, .ref 3), (1, .int (nI s)), (2, .int (rf_known w s)), (3, .int (am_oi (rf_tk w (rf_known w s) (i20 + 1)))), (4, Value.int z9), (5, .int (nI (i20 + 1)))] : List (Nat × Value))) (show (rf_mo w (rf_known w s) (rf_tk w (rf_known w s) i20)) = (rf_mo w (rf_known w s) (rf_tk w (rf_known w s) (i20 + 1))) from congrArg (rf_mo w _) (rf_tk_n (fun z => rf_mo_no hV hl20 (by omega) q58 z.2)))) ?_
            exact ih20 (i20 + 1) (by omega) 
          · skip
            refine am_iload (pc := 61) C dX10_dearestOf_61 rfl ?_
            refine am_istore_n (pc := 63) (ls' := [(0, .ref 3), (1, .int (nI s)), (2, .int (rf_known w s)), (3, .int (nI i20)), (4, .int (rf_mo w (rf_known w s) (rf_tk w (rf_known w s) i20))), (5, .int (nI i20)), (6, .int (rf_falls w (rf_known w s) i20))]) C dX10_dearestOf_63 (by decide) rfl ?_
            refine am_iload (pc := 64) C dX10_dearestOf_64 rfl ?_
            refine am_istore (pc := 66) (ls' := [(0, .ref 3), (1, .int (nI s)), (2, .int (rf_known w s)), (3, .int (nI i20)), (4, .int (rf_falls w (rf_known w s) i20)), (5, .int (nI i20)), (6, .int (rf_falls w (rf_known w s) i20))]) C dX10_dearestOf_66 (by decide) rfl ?_
            refine am_iincN (pc := 68) (ls' := [(0, .ref 3), (1, .int (nI s)), (2, .int (rf_known w s)), (3, .int (nI i20)), (4, .int (rf_falls w (rf_known w s) i20)), (5, .int (nI (i20 + 1))), (6, .int (rf_falls w (rf_known w s) i20))]) C dX10_dearestOf_68 rfl (am_up1 _) (by decide) rfl ?_
            refine am_goto (pc := 71) (tgt := 20) C dX10_dearestOf_71 (by decide) ?_
            refine am_sub (ls' := [(0, .ref 3), (1, .int (nI s)), (2, .int (rf_known w s)), (3, .int (nI i20)), (4, .int (rf_falls w (rf_known w s) i20)), (5, .int (nI (i20 + 1)))]) (by intro q hq; simp only [List.mem_cons, List.not_mem_nil, or_false] at hq ⊢; rcases hq with rfl | rfl | rfl | rfl | rfl | rfl <;> simp) ?_
            refine am_lsv (ls' := [(0, .ref 3), (1, .int (nI s)), (2, .int (rf_known w s)), (3, .int (am_oi (rf_tk w (rf_known w s) (i20 + 1)))), (4, .int (rf_falls w (rf_known w s) i20)), (5, .int (nI (i20 + 1)))]) (congrArg (fun z9 : Int32 => ([(0, .ref 3), (1, .int (nI s)), (2, .int (rf_known w s)), (3, Value.int z9), (4, .int (rf_falls w (rf_known w s) i20)), (5, .int (nI (i20 + 1)))] : List (Nat × Value))) (show (nI i20) = (am_oi (rf_tk w (rf_known w s) (i20 + 1))) from rf_tk_yes ⟨q38, rf_mo_yes q58⟩)) ?_
            refine am_lsv (ls' := [(0, .ref 3), (1, .int (nI s)), (2, .int (rf_known w s)), (3, .int (am_oi (rf_tk w (rf_known w s) (i20 + 1)))), (4, .int (rf_mo w (rf_known w s) (rf_tk w (rf_known w s) (i20 + 1)))), (5, .int (nI (i20 + 1)))]) (congrArg (fun z9 : Int32 => ([(0, .ref 3), (1, .int (nI s)), (2, .int (rf_known w s)), (3, .int (am_oi (rf_tk w (rf_known w s) (i20 + 1)))), (4, Value.int z9), (5, .int (nI (i20 + 1)))] : List (Nat × Value))) (show (rf_falls w (rf_known w s) i20) = (rf_mo w (rf_known w s) (rf_tk w (rf_known w s) (i20 + 1))) from rf_mo_new ⟨q38, rf_mo_yes q58⟩)) ?_
            exact ih20 (i20 + 1) (by omega) 
  refine am_sub (ls' := [(0, .ref 3), (1, .int (nI s)), (2, .int (rf_known w s)), (3, .int (-1)), (4, .int (-1)), (5, .int (nI 0))]) (by intro q hq; simp only [List.mem_cons, List.not_mem_nil, or_false] at hq ⊢; rcases hq with rfl | rfl | rfl | rfl | rfl | rfl <;> simp) ?_
  refine am_lsv (ls' := [(0, .ref 3), (1, .int (nI s)), (2, .int (rf_known w s)), (3, .int (am_oi (rf_tk w (rf_known w s) 0))), (4, .int (-1)), (5, .int (nI 0))]) (congrArg (fun z9 : Int32 => ([(0, .ref 3), (1, .int (nI s)), (2, .int (rf_known w s)), (3, Value.int z9), (4, .int (-1)), (5, .int (nI 0))] : List (Nat × Value))) (show (-1) = (am_oi (rf_tk w (rf_known w s) 0)) from (by first | exact am_oi_0.symm | rfl))) ?_
  refine am_lsv (ls' := [(0, .ref 3), (1, .int (nI s)), (2, .int (rf_known w s)), (3, .int (am_oi (rf_tk w (rf_known w s) 0))), (4, .int (rf_mo w (rf_known w s) (rf_tk w (rf_known w s) 0))), (5, .int (nI 0))]) (congrArg (fun z9 : Int32 => ([(0, .ref 3), (1, .int (nI s)), (2, .int (rf_known w s)), (3, .int (am_oi (rf_tk w (rf_known w s) 0))), (4, Value.int z9), (5, .int (nI 0))] : List (Nat × Value))) (show (-1) = (rf_mo w (rf_known w s) (rf_tk w (rf_known w s) 0)) from (by first | exact am_oi_0.symm | rfl))) ?_
  exact L20 (rf_M w) 0 (by omega) 

set_option maxHeartbeats 400000 in
set_option maxRecDepth 100000 in
theorem c_X10_targetOf {ad : Nat → Nat} {r : am_R} (hR : am_rs r) {h : am_H} (s : Nat) (w : rf_W) (hV : rf_I w) (hLo : cl_Lo (h) 4 w) (hSc : cl_Sc (h) 25 w) (hs : s < rf_S w)  : am_CM mX10_targetOf 2 0 0 [.ref 3, .int (nI s)] (am_VV ad) r h (am_po (some (.int (am_oi (rf_target w s)))) r h) := by
  refine am_CM.of (by decide +kernel) (Nat.le_of_ble_eq_true rfl) (fun X C T => ?_)
  show am_G X (am_VV ad) (0, 0) 0 [(0, .ref 3), (1, .int (nI s))] [] r h
  have hM9 : rf_M w < 17 := hV.1.1.2
  have hS9 : rf_S w < 11 := hV.1.2.1.2
  have hO9 : rf_O w < 11 := hV.1.2.2.2
  refine am_iconst (pc := 0) (v := -1) C dX10_targetOf_0 rfl ?_
  refine am_istore_n (pc := 1) (ls' := [(0, .ref 3), (1, .int (nI s)), (2, .int (-1))]) C dX10_targetOf_1 (by decide) rfl ?_
  refine am_iconstN (pc := 2) (k := 0) C dX10_targetOf_2 ?_
  refine am_istore_n (pc := 3) (ls' := [(0, .ref 3), (1, .int (nI s)), (2, .int (-1)), (3, .int (nI 0))]) C dX10_targetOf_3 (by decide) rfl ?_
  refine am_aload_n (pc := 4) C dX10_targetOf_4 rfl ?_
  refine am_getR (pc := 5) (j := 25) C dX10_targetOf_5 f10_22 bn_3 sh_3 (rf_3_2 hR) ?_
  refine am_getR (pc := 8) (j := 30) C dX10_targetOf_8 f10_64 bn_25 sh_25 (rf_25_9 hR) ?_
  refine am_iload_n (pc := 11) C dX10_targetOf_11 rfl ?_
  refine am_callSNi (Y := mX11_pick) (pc := 12) (st := []) (As := [.ref 30, .int (nI s)]) (x := ((h 30) s)) (h2 := h) C dX10_targetOf_12 k10_54 v_X11_pick rfl rfl (by decide) (Nat.zero_le _) (Nat.zero_le _) (Nat.le_of_ble_eq_true rfl) (c_X11_pick 30 s 10 bn_30 sh_30 (show s < 10 from by omega) (by decide)) ?_
  refine am_top (show ((h 30) s) = (rf_use w s) from (hSc.2.1 s (by omega)).2.2.2.2.1) ?_
  refine am_if_ne (pc := 15) (tgt := 20) C dX10_targetOf_15 (by decide) (fun q15 => ?_) (fun q15 => ?_)
  · skip
    refine am_iconstN (pc := 20) (k := 0) C dX10_targetOf_20 ?_
    refine am_istore (pc := 21) (ls' := [(0, .ref 3), (1, .int (nI s)), (2, .int (-1)), (3, .int (nI 0)), (4, .int (nI 0))]) C dX10_targetOf_21 (by decide) rfl ?_
    have L23 : ∀ (j23 i23 : Nat), i23 + j23 = rf_S w → am_G X (am_VV ad) (0, 0) 23 [(0, .ref 3), (1, .int (nI s)), (2, .int (am_oi (rf_tgt w (rf_sideIn w (nI 1 - rf_of w s 0) (rf_pl w s)) i23))), (3, .int (nI (rf_mst w (rf_tgt w (rf_sideIn w (nI 1 - rf_of w s 0) (rf_pl w s)) i23)))), (4, .int (nI i23))] [] r h := by
      intro j23
      induction j23 with
      | zero =>
        intro i23 hi23 
        obtain rfl : i23 = rf_S w := by omega
        refine am_iload (pc := 23) C dX10_targetOf_23 rfl ?_
        refine am_aload_n (pc := 25) C dX10_targetOf_25 rfl ?_
        refine am_getR (pc := 26) (j := 4) C dX10_targetOf_26 f10_9 bn_3 sh_3 (rf_3_0 hR) ?_
        refine am_getI (pc := 29) C dX10_targetOf_29 f10_138 bn_4 sh_4 ?_
        refine am_top (show ((h 4) 2) = (nI (rf_S w)) from (hLo.1.2.2.1.trans hV.1.2.1.1)) ?_
        refine am_icmp_geN (pc := 32) (tgt := 87) C dX10_targetOf_32 (by decide) (by omega) (by omega) (fun q32 => ?_) (fun q32 => ?_)
        · skip
          refine am_iload_n (pc := 87) C dX10_targetOf_87 rfl ?_
          exact am_ireti T dX10_targetOf_88 rfl (Nat.le_refl _) (Nat.le_refl _) (by rw [rf_target, if_neg q15]) rfl rfl
        · skip
          exact absurd q32 (by omega)
      | succ j23 ih23 =>
        intro i23 hi23 
        have hl23 : i23 < rf_S w := by omega
        have ht9 := rf_tgt_le w (rf_sideIn w (nI 1 - rf_of w s 0) (rf_pl w s)) i23
        have hm9 : rf_mst w (rf_tgt w (rf_sideIn w (nI 1 - rf_of w s 0) (rf_pl w s)) i23) < 13 := rf_mst_lt hV (by omega)
        have hkn9 : rf_kn w i23 < 13 := (hV.2.1 i23 hl23).2.2.2.2.1.2
        refine am_iload (pc := 23) C dX10_targetOf_23 rfl ?_
        refine am_aload_n (pc := 25) C dX10_targetOf_25 rfl ?_
        refine am_getR (pc := 26) (j := 4) C dX10_targetOf_26 f10_9 bn_3 sh_3 (rf_3_0 hR) ?_
        refine am_getI (pc := 29) C dX10_targetOf_29 f10_138 bn_4 sh_4 ?_
        refine am_top (show ((h 4) 2) = (nI (rf_S w)) from (hLo.1.2.2.1.trans hV.1.2.1.1)) ?_
        refine am_icmp_geN (pc := 32) (tgt := 87) C dX10_targetOf_32 (by decide) (by omega) (by omega) (fun q32 => ?_) (fun q32 => ?_)
        · skip
          exact absurd q32 (by omega)
        · skip
          refine am_aload_n (pc := 35) C dX10_targetOf_35 rfl ?_
          refine am_getR (pc := 36) (j := 25) C dX10_targetOf_36 f10_22 bn_3 sh_3 (rf_3_2 hR) ?_
          refine am_getR (pc := 39) (j := 28) C dX10_targetOf_39 f10_58 bn_25 sh_25 (rf_25_7 hR) ?_
          refine am_iload (pc := 42) C dX10_targetOf_42 rfl ?_
          refine am_callSNi (Y := mX11_pick) (pc := 44) (st := []) (As := [.ref 28, .int (nI i23)]) (x := ((h 28) i23)) (h2 := h) C dX10_targetOf_44 k10_54 v_X11_pick rfl rfl (by decide) (Nat.zero_le _) (Nat.zero_le _) (Nat.le_of_ble_eq_true rfl) (c_X11_pick 28 i23 10 bn_28 sh_28 (show i23 < 10 from by omega) (by decide)) ?_
          refine am_top (show ((h 28) i23) = (nI (rf_kn w i23)) from ((hSc.2.1 i23 (by omega)).2.2.1.trans (hV.2.1 i23 (by omega)).2.2.2.2.1.1)) ?_
          refine am_istore (pc := 47) (ls' := [(0, .ref 3), (1, .int (nI s)), (2, .int (am_oi (rf_tgt w (rf_sideIn w (nI 1 - rf_of w s 0) (rf_pl w s)) i23))), (3, .int (nI (rf_mst w (rf_tgt w (rf_sideIn w (nI 1 - rf_of w s 0) (rf_pl w s)) i23)))), (4, .int (nI i23)), (5, .int (nI (rf_kn w i23)))]) C dX10_targetOf_47 (by decide) rfl ?_
          refine am_iload (pc := 49) C dX10_targetOf_49 rfl ?_
          refine am_iload_n (pc := 51) C dX10_targetOf_51 rfl ?_
          refine am_icmp_leN (pc := 52) (tgt := 81) C dX10_targetOf_52 (by decide) (by omega) (by omega) (fun q52 => ?_) (fun q52 => ?_)
          · skip
            refine am_iincN (pc := 81) (ls' := [(0, .ref 3), (1, .int (nI s)), (2, .int (am_oi (rf_tgt w (rf_sideIn w (nI 1 - rf_of w s 0) (rf_pl w s)) i23))), (3, .int (nI (rf_mst w (rf_tgt w (rf_sideIn w (nI 1 - rf_of w s 0) (rf_pl w s)) i23)))), (4, .int (nI (i23 + 1))), (5, .int (nI (rf_kn w i23)))]) C dX10_targetOf_81 rfl (am_up1 _) (by decide) rfl ?_
            refine am_goto (pc := 84) (tgt := 23) C dX10_targetOf_84 (by decide) ?_
            refine am_sub (ls' := [(0, .ref 3), (1, .int (nI s)), (2, .int (am_oi (rf_tgt w (rf_sideIn w (nI 1 - rf_of w s 0) (rf_pl w s)) i23))), (3, .int (nI (rf_mst w (rf_tgt w (rf_sideIn w (nI 1 - rf_of w s 0) (rf_pl w s)) i23)))), (4, .int (nI (i23 + 1)))]) (by intro q hq; simp only [List.mem_cons, List.not_mem_nil, or_false] at hq ⊢; rcases hq with rfl | rfl | rfl | rfl | rfl <;> simp) ?_
            refine am_lsv (ls' := [(0, .ref 3), (1, .int (nI s)), (2, .int (am_oi (rf_tgt w (rf_sideIn w (nI 1 - rf_of w s 0) (rf_pl w s)) (i23 + 1)))), (3, .int (nI (rf_mst w (rf_tgt w (rf_sideIn w (nI 1 - rf_of w s 0) (rf_pl w s)) i23)))), (4, .int (nI (i23 + 1)))]) (congrArg (fun z9 : Int32 => ([(0, .ref 3), (1, .int (nI s)), (2, Value.int z9), (3, .int (nI (rf_mst w (rf_tgt w (rf_sideIn w (nI 1 - rf_of w s 0) (rf_pl w s)) i23)))), (4, .int (nI (i23 + 1)))] : List (Nat × Value))) (show (am_oi (rf_tgt w (rf_sideIn w (nI 1 - rf_of w s 0) (rf_pl w s)) i23)) = (am_oi (rf_tgt w (rf_sideIn w (nI 1 - rf_of w s 0) (rf_pl w s)) (i23 + 1))) from rf_tgt_no (fun z => rf_mst_no (by omega) z.2))) ?_
            refine am_lsv (ls' := [(0, .ref 3), (1, .int (nI s)), (2, .int (am_oi (rf_tgt w (rf_sideIn w (nI 1 - rf_of w s 0) (rf_pl w s)) (i23 + 1)))), (3, .int (nI (rf_mst w (rf_tgt w (rf_sideIn w (nI 1 - rf_of w s 0) (rf_pl w s)) (i23 + 1))))), (4, .int (nI (i23 + 1)))]) (congrArg (fun z9 : Int32 => ([(0, .ref 3), (1, .int (nI s)), (2, .int (am_oi (rf_tgt w (rf_sideIn w (nI 1 - rf_of w s 0) (rf_pl w s)) (i23 + 1)))), (3, Value.int z9), (4, .int (nI (i23 + 1)))] : List (Nat × Value))) (show (nI (rf_mst w (rf_tgt w (rf_sideIn w (nI 1 - rf_of w s 0) (rf_pl w s)) i23))) = (nI (rf_mst w (rf_tgt w (rf_sideIn w (nI 1 - rf_of w s 0) (rf_pl w s)) (i23 + 1)))) from congrArg (fun z => nI (rf_mst w z)) (rf_tgt_n (fun z => rf_mst_no (by omega) z.2)))) ?_
            exact ih23 (i23 + 1) (by omega) 
          · skip
            refine am_aload_n (pc := 55) C dX10_targetOf_55 rfl ?_
            refine am_iload_n (pc := 56) C dX10_targetOf_56 rfl ?_
            refine am_iload (pc := 57) C dX10_targetOf_57 rfl ?_
            refine am_callVi (Y := mX10_ofOneSide) (pc := 59) (st := []) (As := [.int (nI s), .int (nI i23)]) (x := (am_b (decide (rf_of w s 0 = rf_of w i23 0)))) (h2 := h) C dX10_targetOf_59 k10_141 v_X10_ofOneSide rfl rfl bn_3 sh_3 ⟨by decide, rfl⟩ (by decide) (Nat.zero_le _) (Nat.zero_le _) (Nat.le_of_ble_eq_true rfl) (c_X10_ofOneSide hR s i23 w hV hLo hSc hs (show i23 < rf_S w from by omega)) ?_
            refine am_if_neB (pc := 62) (tgt := 81) C dX10_targetOf_62 (by decide) (fun q62 => ?_) (fun q62 => ?_)
            · skip
              refine am_iincN (pc := 81) (ls' := [(0, .ref 3), (1, .int (nI s)), (2, .int (am_oi (rf_tgt w (rf_sideIn w (nI 1 - rf_of w s 0) (rf_pl w s)) i23))), (3, .int (nI (rf_mst w (rf_tgt w (rf_sideIn w (nI 1 - rf_of w s 0) (rf_pl w s)) i23)))), (4, .int (nI (i23 + 1))), (5, .int (nI (rf_kn w i23)))]) C dX10_targetOf_81 rfl (am_up1 _) (by decide) rfl ?_
              refine am_goto (pc := 84) (tgt := 23) C dX10_targetOf_84 (by decide) ?_
              refine am_sub (ls' := [(0, .ref 3), (1, .int (nI s)), (2, .int (am_oi (rf_tgt w (rf_sideIn w (nI 1 - rf_of w s 0) (rf_pl w s)) i23))), (3, .int (nI (rf_mst w (rf_tgt w (rf_sideIn w (nI 1 - rf_of w s 0) (rf_pl w s)) i23)))), (4, .int (nI (i23 + 1)))]) (by intro q hq; simp only [List.mem_cons, List.not_mem_nil, or_false] at hq ⊢; rcases hq with rfl | rfl | rfl | rfl | rfl <;> simp) ?_
              refine am_lsv (ls' := [(0, .ref 3), (1, .int (nI s)), (2, .int (am_oi (rf_tgt w (rf_sideIn w (nI 1 - rf_of w s 0) (rf_pl w s)) (i23 + 1)))), (3, .int (nI (rf_mst w (rf_tgt w (rf_sideIn w (nI 1 - rf_of w s 0) (rf_pl w s)) i23)))), (4, .int (nI (i23 + 1)))]) (congrArg (fun z9 : Int32 => ([(0, .ref 3), (1, .int (nI s)), (2, Value.int z9), (3, .int (nI (rf_mst w (rf_tgt w (rf_sideIn w (nI 1 - rf_of w s 0) (rf_pl w s)) i23)))), (4, .int (nI (i23 + 1)))] : List (Nat × Value))) (show (am_oi (rf_tgt w (rf_sideIn w (nI 1 - rf_of w s 0) (rf_pl w s)) i23)) = (am_oi (rf_tgt w (rf_sideIn w (nI 1 - rf_of w s 0) (rf_pl w s)) (i23 + 1))) from rf_tgt_no (fun z => of_decide_eq_true q62 |> fun e => rf_foe_no hV hs hl23 e z.1))) ?_
              refine am_lsv (ls' := [(0, .ref 3), (1, .int (nI s)), (2, .int (am_oi (rf_tgt w (rf_sideIn w (nI 1 - rf_of w s 0) (rf_pl w s)) (i23 + 1)))), (3, .int (nI (rf_mst w (rf_tgt w (rf_sideIn w (nI 1 - rf_of w s 0) (rf_pl w s)) (i23 + 1))))), (4, .int (nI (i23 + 1)))]) (congrArg (fun z9 : Int32 => ([(0, .ref 3), (1, .int (nI s)), (2, .int (am_oi (rf_tgt w (rf_sideIn w (nI 1 - rf_of w s 0) (rf_pl w s)) (i23 + 1)))), (3, Value.int z9), (4, .int (nI (i23 + 1)))] : List (Nat × Value))) (show (nI (rf_mst w (rf_tgt w (rf_sideIn w (nI 1 - rf_of w s 0) (rf_pl w s)) i23))) = (nI (rf_mst w (rf_tgt w (rf_sideIn w (nI 1 - rf_of w s 0) (rf_pl w s)) (i23 + 1)))) from congrArg (fun z => nI (rf_mst w z)) (rf_tgt_n (fun z => of_decide_eq_true q62 |> fun e => rf_foe_no hV hs hl23 e z.1)))) ?_
              exact ih23 (i23 + 1) (by omega) 
            · skip
              refine am_aload_n (pc := 65) C dX10_targetOf_65 rfl ?_
              refine am_iload_n (pc := 66) C dX10_targetOf_66 rfl ?_
              refine am_iload (pc := 67) C dX10_targetOf_67 rfl ?_
              refine am_callVi (Y := mX10_together) (pc := 69) (st := []) (As := [.int (nI s), .int (nI i23)]) (x := (am_b (decide (rf_pl w s = rf_pl w i23)))) (h2 := h) C dX10_targetOf_69 k10_144 v_X10_together rfl rfl bn_3 sh_3 ⟨by decide, rfl⟩ (by decide) (Nat.zero_le _) (Nat.zero_le _) (Nat.le_of_ble_eq_true rfl) (c_X10_together hR s i23 w hV hLo hSc hs (show i23 < rf_S w from by omega)) ?_
              refine am_if_eqB (pc := 72) (tgt := 81) C dX10_targetOf_72 (by decide) (fun q72 => ?_) (fun q72 => ?_)
              · skip
                refine am_iincN (pc := 81) (ls' := [(0, .ref 3), (1, .int (nI s)), (2, .int (am_oi (rf_tgt w (rf_sideIn w (nI 1 - rf_of w s 0) (rf_pl w s)) i23))), (3, .int (nI (rf_mst w (rf_tgt w (rf_sideIn w (nI 1 - rf_of w s 0) (rf_pl w s)) i23)))), (4, .int (nI (i23 + 1))), (5, .int (nI (rf_kn w i23)))]) C dX10_targetOf_81 rfl (am_up1 _) (by decide) rfl ?_
                refine am_goto (pc := 84) (tgt := 23) C dX10_targetOf_84 (by decide) ?_
                refine am_sub (ls' := [(0, .ref 3), (1, .int (nI s)), (2, .int (am_oi (rf_tgt w (rf_sideIn w (nI 1 - rf_of w s 0) (rf_pl w s)) i23))), (3, .int (nI (rf_mst w (rf_tgt w (rf_sideIn w (nI 1 - rf_of w s 0) (rf_pl w s)) i23)))), (4, .int (nI (i23 + 1)))]) (by intro q hq; simp only [List.mem_cons, List.not_mem_nil, or_false] at hq ⊢; rcases hq with rfl | rfl | rfl | rfl | rfl <;> simp) ?_
                refine am_lsv (ls' := [(0, .ref 3), (1, .int (nI s)), (2, .int (am_oi (rf_tgt w (rf_sideIn w (nI 1 - rf_of w s 0) (rf_pl w s)) (i23 + 1)))), (3, .int (nI (rf_mst w (rf_tgt w (rf_sideIn w (nI 1 - rf_of w s 0) (rf_pl w s)) i23)))), (4, .int (nI (i23 + 1)))]) (congrArg (fun z9 : Int32 => ([(0, .ref 3), (1, .int (nI s)), (2, Value.int z9), (3, .int (nI (rf_mst w (rf_tgt w (rf_sideIn w (nI 1 - rf_of w s 0) (rf_pl w s)) i23)))), (4, .int (nI (i23 + 1)))] : List (Nat × Value))) (show (am_oi (rf_tgt w (rf_sideIn w (nI 1 - rf_of w s 0) (rf_pl w s)) i23)) = (am_oi (rf_tgt w (rf_sideIn w (nI 1 - rf_of w s 0) (rf_pl w s)) (i23 + 1))) from rf_tgt_no (fun z => rf_foe_no2 hV hs hl23 (of_decide_eq_false q72) z.1))) ?_
                refine am_lsv (ls' := [(0, .ref 3), (1, .int (nI s)), (2, .int (am_oi (rf_tgt w (rf_sideIn w (nI 1 - rf_of w s 0) (rf_pl w s)) (i23 + 1)))), (3, .int (nI (rf_mst w (rf_tgt w (rf_sideIn w (nI 1 - rf_of w s 0) (rf_pl w s)) (i23 + 1))))), (4, .int (nI (i23 + 1)))]) (congrArg (fun z9 : Int32 => ([(0, .ref 3), (1, .int (nI s)), (2, .int (am_oi (rf_tgt w (rf_sideIn w (nI 1 - rf_of w s 0) (rf_pl w s)) (i23 + 1)))), (3, Value.int z9), (4, .int (nI (i23 + 1)))] : List (Nat × Value))) (show (nI (rf_mst w (rf_tgt w (rf_sideIn w (nI 1 - rf_of w s 0) (rf_pl w s)) i23))) = (nI (rf_mst w (rf_tgt w (rf_sideIn w (nI 1 - rf_of w s 0) (rf_pl w s)) (i23 + 1)))) from congrArg (fun z => nI (rf_mst w z)) (rf_tgt_n (fun z => rf_foe_no2 hV hs hl23 (of_decide_eq_false q72) z.1)))) ?_
                exact ih23 (i23 + 1) (by omega) 
              · skip
                refine am_iload (pc := 75) C dX10_targetOf_75 rfl ?_
                refine am_istore_n (pc := 77) (ls' := [(0, .ref 3), (1, .int (nI s)), (2, .int (nI i23)), (3, .int (nI (rf_mst w (rf_tgt w (rf_sideIn w (nI 1 - rf_of w s 0) (rf_pl w s)) i23)))), (4, .int (nI i23)), (5, .int (nI (rf_kn w i23)))]) C dX10_targetOf_77 (by decide) rfl ?_
                refine am_iload (pc := 78) C dX10_targetOf_78 rfl ?_
                refine am_istore_n (pc := 80) (ls' := [(0, .ref 3), (1, .int (nI s)), (2, .int (nI i23)), (3, .int (nI (rf_kn w i23))), (4, .int (nI i23)), (5, .int (nI (rf_kn w i23)))]) C dX10_targetOf_80 (by decide) rfl ?_
                refine am_iincN (pc := 81) (ls' := [(0, .ref 3), (1, .int (nI s)), (2, .int (nI i23)), (3, .int (nI (rf_kn w i23))), (4, .int (nI (i23 + 1))), (5, .int (nI (rf_kn w i23)))]) C dX10_targetOf_81 rfl (am_up1 _) (by decide) rfl ?_
                refine am_goto (pc := 84) (tgt := 23) C dX10_targetOf_84 (by decide) ?_
                refine am_sub (ls' := [(0, .ref 3), (1, .int (nI s)), (2, .int (nI i23)), (3, .int (nI (rf_kn w i23))), (4, .int (nI (i23 + 1)))]) (by intro q hq; simp only [List.mem_cons, List.not_mem_nil, or_false] at hq ⊢; rcases hq with rfl | rfl | rfl | rfl | rfl <;> simp) ?_
                refine am_lsv (ls' := [(0, .ref 3), (1, .int (nI s)), (2, .int (am_oi (rf_tgt w (rf_sideIn w (nI 1 - rf_of w s 0) (rf_pl w s)) (i23 + 1)))), (3, .int (nI (rf_kn w i23))), (4, .int (nI (i23 + 1)))]) (congrArg (fun z9 : Int32 => ([(0, .ref 3), (1, .int (nI s)), (2, Value.int z9), (3, .int (nI (rf_kn w i23))), (4, .int (nI (i23 + 1)))] : List (Nat × Value))) (show (nI i23) = (am_oi (rf_tgt w (rf_sideIn w (nI 1 - rf_of w s 0) (rf_pl w s)) (i23 + 1))) from rf_tgt_yes ⟨rf_foe_yes hV hs hl23 (of_decide_eq_false q62) (of_decide_eq_true q72), rf_mst_yes (by omega)⟩)) ?_
                refine am_lsv (ls' := [(0, .ref 3), (1, .int (nI s)), (2, .int (am_oi (rf_tgt w (rf_sideIn w (nI 1 - rf_of w s 0) (rf_pl w s)) (i23 + 1)))), (3, .int (nI (rf_mst w (rf_tgt w (rf_sideIn w (nI 1 - rf_of w s 0) (rf_pl w s)) (i23 + 1))))), (4, .int (nI (i23 + 1)))]) (congrArg (fun z9 : Int32 => ([(0, .ref 3), (1, .int (nI s)), (2, .int (am_oi (rf_tgt w (rf_sideIn w (nI 1 - rf_of w s 0) (rf_pl w s)) (i23 + 1)))), (3, Value.int z9), (4, .int (nI (i23 + 1)))] : List (Nat × Value))) (show (nI (rf_kn w i23)) = (nI (rf_mst w (rf_tgt w (rf_sideIn w (nI 1 - rf_of w s 0) (rf_pl w s)) (i23 + 1)))) from congrArg nI (rf_mst_new ⟨rf_foe_yes hV hs hl23 (of_decide_eq_false q62) (of_decide_eq_true q72), rf_mst_yes (by omega)⟩))) ?_
                exact ih23 (i23 + 1) (by omega) 
    refine am_sub (ls' := [(0, .ref 3), (1, .int (nI s)), (2, .int (-1)), (3, .int (nI 0)), (4, .int (nI 0))]) (by intro q hq; simp only [List.mem_cons, List.not_mem_nil, or_false] at hq ⊢; rcases hq with rfl | rfl | rfl | rfl | rfl <;> simp) ?_
    refine am_lsv (ls' := [(0, .ref 3), (1, .int (nI s)), (2, .int (am_oi (rf_tgt w (rf_sideIn w (nI 1 - rf_of w s 0) (rf_pl w s)) 0))), (3, .int (nI 0)), (4, .int (nI 0))]) (congrArg (fun z9 : Int32 => ([(0, .ref 3), (1, .int (nI s)), (2, Value.int z9), (3, .int (nI 0)), (4, .int (nI 0))] : List (Nat × Value))) (show (-1) = (am_oi (rf_tgt w (rf_sideIn w (nI 1 - rf_of w s 0) (rf_pl w s)) 0)) from (by first | exact am_oi_0.symm | rfl))) ?_
    refine am_lsv (ls' := [(0, .ref 3), (1, .int (nI s)), (2, .int (am_oi (rf_tgt w (rf_sideIn w (nI 1 - rf_of w s 0) (rf_pl w s)) 0))), (3, .int (nI (rf_mst w (rf_tgt w (rf_sideIn w (nI 1 - rf_of w s 0) (rf_pl w s)) 0)))), (4, .int (nI 0))]) (congrArg (fun z9 : Int32 => ([(0, .ref 3), (1, .int (nI s)), (2, .int (am_oi (rf_tgt w (rf_sideIn w (nI 1 - rf_of w s 0) (rf_pl w s)) 0))), (3, Value.int z9), (4, .int (nI 0))] : List (Nat × Value))) (show (nI 0) = (nI (rf_mst w (rf_tgt w (rf_sideIn w (nI 1 - rf_of w s 0) (rf_pl w s)) 0))) from (by first | exact am_oi_0.symm | rfl))) ?_
    exact L23 (rf_S w) 0 (by omega) 
  · skip
    refine am_iconst (pc := 18) (v := -1) C dX10_targetOf_18 rfl ?_
    exact am_ireti T dX10_targetOf_19 rfl (Nat.le_refl _) (Nat.le_refl _) (by rw [rf_target, if_pos q15]; exact am_oi_0.symm) rfl rfl

set_option maxHeartbeats 400000 in
set_option maxRecDepth 100000 in
theorem c_X6_shotsAt {ad : Nat → Nat} {r : am_R} (hR : am_rs r) {h : am_H} (s : Nat) (m : Nat) (good : Bool) (w : rf_W) (hV : rf_I w) (hLo : cl_Lo (h) 4 w) (hSc : cl_Sc (h) 25 w) (hs : s < rf_S w) (hm : m < rf_M w)  : am_CM mX6_shotsAt 2 0 0 [.ref 314, .int (nI s), .int (nI m), .int (am_b good)] (am_VV ad) r h (am_po (some (.int (nI (rf_shots w s m good)))) r h) := by
  refine am_CM.of (by decide +kernel) (Nat.le_of_ble_eq_true rfl) (fun X C T => ?_)
  show am_G X (am_VV ad) (0, 0) 0 [(0, .ref 314), (1, .int (nI s)), (2, .int (nI m)), (3, .int (am_b good))] [] r h
  have hM9 : rf_M w < 17 := hV.1.1.2
  have hS9 : rf_S w < 11 := hV.1.2.1.2
  have hO9 : rf_O w < 11 := hV.1.2.2.2
  have hIs := hV.2.1 s hs
  have hk13 : rf_kn w s < 13 := hIs.2.2.2.2.1.2
  refine am_aload_n (pc := 0) C dX6_shotsAt_0 rfl ?_
  refine am_getR (pc := 1) (j := 3) C dX6_shotsAt_1 f6_9 bn_314 sh_314 (rf_314_0 hR) ?_
  refine am_iload_n (pc := 4) C dX6_shotsAt_4 rfl ?_
  refine am_iload_n (pc := 5) C dX6_shotsAt_5 rfl ?_
  refine am_callVi (Y := mX10_canUse) (pc := 6) (st := []) (As := [.int (nI s), .int (nI m)]) (x := (am_b (am_bt (rf_use w s) m))) (h2 := h) C dX6_shotsAt_6 k6_31 v_X10_canUse rfl rfl bn_3 sh_3 ⟨by decide, rfl⟩ (by decide) (Nat.zero_le _) (Nat.zero_le _) (Nat.le_of_ble_eq_true rfl) (c_X10_canUse hR s m w hV hLo hSc hs (show m < 32 from by omega)) ?_
  refine am_if_neB (pc := 9) (tgt := 14) C dX6_shotsAt_9 (by decide) (fun q9 => ?_) (fun q9 => ?_)
  · skip
    refine am_iload_n (pc := 14) C dX6_shotsAt_14 rfl ?_
    refine am_if_eqB (pc := 15) (tgt := 20) C dX6_shotsAt_15 (by decide) (fun q15 => ?_) (fun q15 => ?_)
    · skip
      refine am_aload_n (pc := 20) C dX6_shotsAt_20 rfl ?_
      refine am_getR (pc := 21) (j := 4) C dX6_shotsAt_21 f6_21 bn_314 sh_314 (rf_314_1 hR) ?_
      refine am_getR (pc := 24) (j := 7) C dX6_shotsAt_24 f6_35 bn_4 sh_4 (rf_4_6 hR) ?_
      refine am_iload_n (pc := 27) C dX6_shotsAt_27 rfl ?_
      refine am_callSNi (Y := mX11_pick) (pc := 28) (st := []) (As := [.ref 7, .int (nI m)]) (x := ((h 7) m)) (h2 := h) C dX6_shotsAt_28 k6_40 v_X11_pick rfl rfl (by decide) (Nat.zero_le _) (Nat.zero_le _) (Nat.le_of_ble_eq_true rfl) (c_X11_pick 7 m 16 bn_7 sh_7 (show m < 16 from by omega) (by decide)) ?_
      refine am_top (show ((h 7) m) = (rf_bears w m) from (hLo.2.1 m (by omega)).2.2.1) ?_
      refine am_iconstN (pc := 31) (k := 1) C dX6_shotsAt_31 ?_
      refine am_iload_n (pc := 32) C dX6_shotsAt_32 rfl ?_
      refine am_ishl (pc := 33) C dX6_shotsAt_33 ?_
      refine am_ior (pc := 34) C dX6_shotsAt_34 ?_
      refine am_istore (pc := 35) (ls' := [(0, .ref 314), (1, .int (nI s)), (2, .int (nI m)), (3, .int (am_b good)), (4, .int ((rf_bears w m) ||| ((nI 1) <<< ((nI m) &&& 31))))]) C dX6_shotsAt_35 (by decide) rfl ?_
      refine am_aload_n (pc := 37) C dX6_shotsAt_37 rfl ?_
      refine am_getR (pc := 38) (j := 25) C dX6_shotsAt_38 f6_26 bn_314 sh_314 (rf_314_2 hR) ?_
      refine am_getR (pc := 41) (j := 28) C dX6_shotsAt_41 f6_44 bn_25 sh_25 (rf_25_7 hR) ?_
      refine am_iload_n (pc := 44) C dX6_shotsAt_44 rfl ?_
      refine am_callSNi (Y := mX11_pick) (pc := 45) (st := []) (As := [.ref 28, .int (nI s)]) (x := ((h 28) s)) (h2 := h) C dX6_shotsAt_45 k6_40 v_X11_pick rfl rfl (by decide) (Nat.zero_le _) (Nat.zero_le _) (Nat.le_of_ble_eq_true rfl) (c_X11_pick 28 s 10 bn_28 sh_28 (show s < 10 from by omega) (by decide)) ?_
      refine am_top (show ((h 28) s) = (nI (rf_kn w s)) from ((hSc.2.1 s (by omega)).2.2.1.trans (hV.2.1 s (by omega)).2.2.2.2.1.1)) ?_
      refine am_istore (pc := 48) (ls' := [(0, .ref 314), (1, .int (nI s)), (2, .int (nI m)), (3, .int (am_b good)), (4, .int ((rf_bears w m) ||| ((nI 1) <<< ((nI m) &&& 31)))), (5, .int (nI (rf_kn w s)))]) C dX6_shotsAt_48 (by decide) rfl ?_
      refine am_iload (pc := 50) C dX6_shotsAt_50 rfl ?_
      refine am_iconstN (pc := 52) (k := 1) C dX6_shotsAt_52 ?_
      refine am_isub (pc := 53) C dX6_shotsAt_53 ?_
      refine am_istore (pc := 54) (ls' := [(0, .ref 314), (1, .int (nI s)), (2, .int (nI m)), (3, .int (am_b good)), (4, .int ((rf_bears w m) ||| ((nI 1) <<< ((nI m) &&& 31)))), (5, .int (nI (rf_kn w s))), (6, .int ((nI (rf_kn w s)) - (nI 1)))]) C dX6_shotsAt_54 (by decide) rfl ?_
      have L56 : ∀ (j56 : Nat) , (hjk : j56 ≤ rf_kn w s) → (hno : ∀ i, j56 ≤ i → i < rf_kn w s → am_bt (rf_bears w m ||| (nI 1 <<< (nI m &&& 31))) (rf_li w s i) = false) → am_G X (am_VV ad) (0, 0) 56 [(0, .ref 314), (1, .int (nI s)), (2, .int (nI m)), (3, .int (am_b good)), (4, .int ((rf_bears w m) ||| ((nI 1) <<< ((nI m) &&& 31)))), (5, .int (nI (rf_kn w s))), (6, .int (am_oi j56))] [] r h := by
        intro j56
        induction j56 with
        | zero =>
          intro  hjk hno
          refine am_iload (pc := 56) C dX6_shotsAt_56 rfl ?_
          refine am_if_ltO (pc := 58) (tgt := 91) C dX6_shotsAt_58 (by decide) (by omega) (fun q58 => ?_) (fun q58 => ?_)
          · skip
            exact absurd q9 (rf_sh_any hV hs hm hno)
          · skip
            exact absurd q58 (by omega)
        | succ j56 ih56 =>
          intro  hjk hno
          refine am_iload (pc := 56) C dX6_shotsAt_56 rfl ?_
          refine am_if_ltO (pc := 58) (tgt := 91) C dX6_shotsAt_58 (by decide) (by omega) (fun q58 => ?_) (fun q58 => ?_)
          · skip
            exact absurd q58 (by omega)
          · skip
            refine am_lsv (ls' := [(0, .ref 314), (1, .int (nI s)), (2, .int (nI m)), (3, .int (am_b good)), (4, .int ((rf_bears w m) ||| ((nI 1) <<< ((nI m) &&& 31)))), (5, .int (nI (rf_kn w s))), (6, .int (nI j56))]) (congrArg (fun z9 : Int32 => ([(0, .ref 314), (1, .int (nI s)), (2, .int (nI m)), (3, .int (am_b good)), (4, .int ((rf_bears w m) ||| ((nI 1) <<< ((nI m) &&& 31)))), (5, .int (nI (rf_kn w s))), (6, Value.int z9)] : List (Nat × Value))) (show (am_oi (j56 + 1)) = (nI j56) from (am_oi_s j56))) ?_
            have hli9 := rf_li_lt hIs (show j56 < rf_kn w s by omega)
            refine am_iload (pc := 61) C dX6_shotsAt_61 rfl ?_
            refine am_aload_n (pc := 63) C dX6_shotsAt_63 rfl ?_
            refine am_getR (pc := 64) (j := 25) C dX6_shotsAt_64 f6_26 bn_314 sh_314 (rf_314_2 hR) ?_
            refine am_iload_n (pc := 67) C dX6_shotsAt_67 rfl ?_
            refine am_iload (pc := 68) C dX6_shotsAt_68 rfl ?_
            refine am_callVi (Y := mX5_knownAt) (pc := 70) (st := [.int ((rf_bears w m) ||| ((nI 1) <<< ((nI m) &&& 31)))]) (As := [.int (nI s), .int (nI j56)]) (x := (nI (rf_li w s j56))) (h2 := h) C dX6_shotsAt_70 k6_49 v_X5_knownAt rfl rfl bn_25 sh_25 ⟨by decide, rfl⟩ (by decide) (Nat.zero_le _) (Nat.zero_le _) (Nat.le_of_ble_eq_true rfl) (c_X5_knownAt hR s j56 w hV hSc hs (show j56 < rf_kn w s from by omega)) ?_
            refine am_callSNi (Y := mX11_has) (pc := 73) (st := []) (As := [.int ((rf_bears w m) ||| ((nI 1) <<< ((nI m) &&& 31))), .int (nI (rf_li w s j56))]) (x := (am_b (am_bt ((rf_bears w m) ||| ((nI 1) <<< ((nI m) &&& 31))) (rf_li w s j56)))) (h2 := h) C dX6_shotsAt_73 k6_53 v_X11_has rfl rfl (by decide) (Nat.zero_le _) (Nat.zero_le _) (Nat.le_of_ble_eq_true rfl) (c_X11_has ((rf_bears w m) ||| ((nI 1) <<< ((nI m) &&& 31))) (rf_li w s j56) (show (rf_li w s j56) < 32 from by omega)) ?_
            refine am_if_eqB (pc := 76) (tgt := 85) C dX6_shotsAt_76 (by decide) (fun q76 => ?_) (fun q76 => ?_)
            · skip
              refine am_iinc (pc := 85) (ls' := [(0, .ref 314), (1, .int (nI s)), (2, .int (nI m)), (3, .int (am_b good)), (4, .int ((rf_bears w m) ||| ((nI 1) <<< ((nI m) &&& 31)))), (5, .int (nI (rf_kn w s))), (6, .int ((nI j56) - nI 1))]) C dX6_shotsAt_85 rfl (am_dnI _) (by decide) rfl ?_
              refine am_goto (pc := 88) (tgt := 56) C dX6_shotsAt_88 (by decide) ?_
              refine am_lsv (ls' := [(0, .ref 314), (1, .int (nI s)), (2, .int (nI m)), (3, .int (am_b good)), (4, .int ((rf_bears w m) ||| ((nI 1) <<< ((nI m) &&& 31)))), (5, .int (nI (rf_kn w s))), (6, .int (am_oi j56))]) (by rw [show ((nI j56) - nI 1) = (am_oi j56) from rfl]) ?_
              exact ih56  (by omega) (fun i h1 h2 => if e : i = j56 then (by rw [e]; exact q76) else hno i (by omega) h2)
            · skip
              refine am_iload (pc := 79) C dX6_shotsAt_79 rfl ?_
              refine am_iload (pc := 81) C dX6_shotsAt_81 rfl ?_
              refine am_isubN (pc := 83) C dX6_shotsAt_83 (by omega) ?_
              exact am_ireti T dX6_shotsAt_84 rfl (Nat.le_refl _) (Nat.le_refl _) (by rw [rf_shots, if_pos q9, q15]; exact congrArg nI (rf_shn_eq hV hs hm q9 (by omega) q76 (fun i h1 h2 => hno i (by omega) h2)).symm) rfl rfl
      refine am_lsv (ls' := [(0, .ref 314), (1, .int (nI s)), (2, .int (nI m)), (3, .int (am_b good)), (4, .int ((rf_bears w m) ||| ((nI 1) <<< ((nI m) &&& 31)))), (5, .int (nI (rf_kn w s))), (6, .int (am_oi (rf_kn w s)))]) (by rw [show ((nI (rf_kn w s)) - (nI 1)) = (am_oi (rf_kn w s)) from rfl]) ?_
      exact L56 (rf_kn w s)  (Nat.le_refl _) (fun i h1 h2 => absurd h1 (by omega))
    · skip
      refine am_iconstN (pc := 18) (k := 1) C dX6_shotsAt_18 ?_
      exact am_ireti T dX6_shotsAt_19 rfl (Nat.le_refl _) (Nat.le_refl _) (by rw [rf_shots, if_pos q9, q15]; rfl) rfl rfl
  · skip
    refine am_iconstN (pc := 12) (k := 0) C dX6_shotsAt_12 ?_
    exact am_ireti T dX6_shotsAt_13 rfl (Nat.le_refl _) (Nat.le_refl _) (by rw [rf_shots, if_neg (by rw [q9]; exact Bool.false_ne_true)]) rfl rfl

set_option maxHeartbeats 400000 in
set_option maxRecDepth 100000 in
theorem c_X6_shotsAtSide {ad : Nat → Nat} {r : am_R} (hR : am_rs r) {h : am_H} (d : Int32) (m : Nat) (good : Bool) (w : rf_W) (hV : rf_I w) (hLo : cl_Lo (h) 4 w) (hSc : cl_Sc (h) 25 w) (hm : m < rf_M w)  : am_CM mX6_shotsAtSide 3 0 0 [.ref 314, .int d, .int (nI m), .int (am_b good)] (am_VV ad) r h (am_po (some (.int (nI (rf_osum w d m good (rf_S w))))) r h) := by
  refine am_CM.of (by decide +kernel) (Nat.le_of_ble_eq_true rfl) (fun X C T => ?_)
  show am_G X (am_VV ad) (0, 0) 0 [(0, .ref 314), (1, .int d), (2, .int (nI m)), (3, .int (am_b good))] [] r h
  have hM9 : rf_M w < 17 := hV.1.1.2
  have hS9 : rf_S w < 11 := hV.1.2.1.2
  have hO9 : rf_O w < 11 := hV.1.2.2.2
  refine am_iconstN (pc := 0) (k := 0) C dX6_shotsAtSide_0 ?_
  refine am_istore (pc := 1) (ls' := [(0, .ref 314), (1, .int d), (2, .int (nI m)), (3, .int (am_b good)), (4, .int (nI 0))]) C dX6_shotsAtSide_1 (by decide) rfl ?_
  refine am_iconstN (pc := 3) (k := 0) C dX6_shotsAtSide_3 ?_
  refine am_istore (pc := 4) (ls' := [(0, .ref 314), (1, .int d), (2, .int (nI m)), (3, .int (am_b good)), (4, .int (nI 0)), (5, .int (nI 0))]) C dX6_shotsAtSide_4 (by decide) rfl ?_
  have L6 : ∀ (j6 i6 : Nat), i6 + j6 = rf_S w → am_G X (am_VV ad) (0, 0) 6 [(0, .ref 314), (1, .int d), (2, .int (nI m)), (3, .int (am_b good)), (4, .int (nI (rf_osum w d m good i6))), (5, .int (nI i6))] [] r h := by
    intro j6
    induction j6 with
    | zero =>
      intro i6 hi6 
      obtain rfl : i6 = rf_S w := by omega
      refine am_iload (pc := 6) C dX6_shotsAtSide_6 rfl ?_
      refine am_aload_n (pc := 8) C dX6_shotsAtSide_8 rfl ?_
      refine am_getR (pc := 9) (j := 4) C dX6_shotsAtSide_9 f6_21 bn_314 sh_314 (rf_314_1 hR) ?_
      refine am_getI (pc := 12) C dX6_shotsAtSide_12 f6_56 bn_4 sh_4 ?_
      refine am_top (show ((h 4) 2) = (nI (rf_S w)) from (hLo.1.2.2.1.trans hV.1.2.1.1)) ?_
      refine am_icmp_geN (pc := 15) (tgt := 53) C dX6_shotsAtSide_15 (by decide) (by omega) (by omega) (fun q15 => ?_) (fun q15 => ?_)
      · skip
        refine am_iload (pc := 53) C dX6_shotsAtSide_53 rfl ?_
        exact am_ireti T dX6_shotsAtSide_55 rfl (Nat.le_refl _) (Nat.le_refl _) rfl rfl rfl
      · skip
        exact absurd q15 (by omega)
    | succ j6 ih6 =>
      intro i6 hi6 
      have hl6 : i6 < rf_S w := by omega
      refine am_iload (pc := 6) C dX6_shotsAtSide_6 rfl ?_
      refine am_aload_n (pc := 8) C dX6_shotsAtSide_8 rfl ?_
      refine am_getR (pc := 9) (j := 4) C dX6_shotsAtSide_9 f6_21 bn_314 sh_314 (rf_314_1 hR) ?_
      refine am_getI (pc := 12) C dX6_shotsAtSide_12 f6_56 bn_4 sh_4 ?_
      refine am_top (show ((h 4) 2) = (nI (rf_S w)) from (hLo.1.2.2.1.trans hV.1.2.1.1)) ?_
      refine am_icmp_geN (pc := 15) (tgt := 53) C dX6_shotsAtSide_15 (by decide) (by omega) (by omega) (fun q15 => ?_) (fun q15 => ?_)
      · skip
        exact absurd q15 (by omega)
      · skip
        refine am_aload_n (pc := 18) C dX6_shotsAtSide_18 rfl ?_
        refine am_getR (pc := 19) (j := 4) C dX6_shotsAtSide_19 f6_21 bn_314 sh_314 (rf_314_1 hR) ?_
        refine am_getR (pc := 22) (j := 10) C dX6_shotsAtSide_22 f6_60 bn_4 sh_4 (rf_4_9 hR) ?_
        refine am_iload (pc := 25) C dX6_shotsAtSide_25 rfl ?_
        refine am_callSNi (Y := mX11_pick) (pc := 27) (st := []) (As := [.ref 10, .int (nI i6)]) (x := ((h 10) i6)) (h2 := h) C dX6_shotsAtSide_27 k6_40 v_X11_pick rfl rfl (by decide) (Nat.zero_le _) (Nat.zero_le _) (Nat.le_of_ble_eq_true rfl) (c_X11_pick 10 i6 10 bn_10 sh_10 (show i6 < 10 from by omega) (by decide)) ?_
        refine am_top (show ((h 10) i6) = (rf_of w i6 0) from (hLo.2.2.1 i6 (by omega)).1) ?_
        refine am_iload_n (pc := 30) C dX6_shotsAtSide_30 rfl ?_
        refine am_icmp_ne (pc := 31) (tgt := 47) C dX6_shotsAtSide_31 (by decide) (fun q31 => ?_) (fun q31 => ?_)
        · skip
          refine am_iincN (pc := 47) (ls' := [(0, .ref 314), (1, .int d), (2, .int (nI m)), (3, .int (am_b good)), (4, .int (nI (rf_osum w d m good i6))), (5, .int (nI (i6 + 1)))]) C dX6_shotsAtSide_47 rfl (am_up1 _) (by decide) rfl ?_
          refine am_goto (pc := 50) (tgt := 6) C dX6_shotsAtSide_50 (by decide) ?_
          refine am_lsv (ls' := [(0, .ref 314), (1, .int d), (2, .int (nI m)), (3, .int (am_b good)), (4, .int (nI (rf_osum w d m good (i6 + 1)))), (5, .int (nI (i6 + 1)))]) (by rw [show (nI (rf_osum w d m good i6)) = (nI (rf_osum w d m good (i6 + 1))) from congrArg nI (by rw [rf_osum, if_neg q31]; rfl)]) ?_
          exact ih6 (i6 + 1) (by omega) 
        · skip
          refine am_iload (pc := 34) C dX6_shotsAtSide_34 rfl ?_
          refine am_aload_n (pc := 36) C dX6_shotsAtSide_36 rfl ?_
          refine am_iload (pc := 37) C dX6_shotsAtSide_37 rfl ?_
          refine am_iload_n (pc := 39) C dX6_shotsAtSide_39 rfl ?_
          refine am_iload_n (pc := 40) C dX6_shotsAtSide_40 rfl ?_
          refine am_callVi (Y := mX6_shotsAt) (pc := 41) (st := [.int (nI (rf_osum w d m good i6))]) (As := [.int (nI i6), .int (nI m), .int (am_b good)]) (x := (nI (rf_shots w i6 m good))) (h2 := h) C dX6_shotsAtSide_41 k6_63 v_X6_shotsAt rfl rfl bn_314 sh_314 ⟨by decide, rfl⟩ (by decide) (Nat.zero_le _) (Nat.zero_le _) (Nat.le_of_ble_eq_true rfl) (c_X6_shotsAt hR i6 m good w hV hLo hSc (show i6 < rf_S w from by omega) hm) ?_
          refine am_iaddN (pc := 44) C dX6_shotsAtSide_44 ?_
          refine am_istore (pc := 45) (ls' := [(0, .ref 314), (1, .int d), (2, .int (nI m)), (3, .int (am_b good)), (4, .int (nI ((rf_osum w d m good i6) + (rf_shots w i6 m good)))), (5, .int (nI i6))]) C dX6_shotsAtSide_45 (by decide) rfl ?_
          refine am_iincN (pc := 47) (ls' := [(0, .ref 314), (1, .int d), (2, .int (nI m)), (3, .int (am_b good)), (4, .int (nI ((rf_osum w d m good i6) + (rf_shots w i6 m good)))), (5, .int (nI (i6 + 1)))]) C dX6_shotsAtSide_47 rfl (am_up1 _) (by decide) rfl ?_
          refine am_goto (pc := 50) (tgt := 6) C dX6_shotsAtSide_50 (by decide) ?_
          refine am_lsv (ls' := [(0, .ref 314), (1, .int d), (2, .int (nI m)), (3, .int (am_b good)), (4, .int (nI (rf_osum w d m good (i6 + 1)))), (5, .int (nI (i6 + 1)))]) (by rw [show (nI ((rf_osum w d m good i6) + (rf_shots w i6 m good))) = (nI (rf_osum w d m good (i6 + 1))) from congrArg nI (by rw [rf_osum, if_pos q31])]) ?_
          exact ih6 (i6 + 1) (by omega) 
  exact L6 (rf_S w) 0 (by omega) 

set_option maxHeartbeats 400000 in
set_option maxRecDepth 100000 in
theorem c_X6_firstKnown {ad : Nat → Nat} {r : am_R} (hR : am_rs r) {h : am_H} (s : Nat) (n : Nat) (w : rf_W) (hV : rf_I w) (hLo : cl_Lo (h) 4 w) (hSc : cl_Sc (h) 25 w) (hs : s < rf_S w) (hn : n < 1000)  : am_CM mX6_firstKnown 2 0 0 [.ref 314, .int (nI s), .int (nI n)] (am_VV ad) r h (am_po (some (.int (rf_first w s n))) r h) := by
  refine am_CM.of (by decide +kernel) (Nat.le_of_ble_eq_true rfl) (fun X C T => ?_)
  show am_G X (am_VV ad) (0, 0) 0 [(0, .ref 314), (1, .int (nI s)), (2, .int (nI n))] [] r h
  have hM9 : rf_M w < 17 := hV.1.1.2
  have hS9 : rf_S w < 11 := hV.1.2.1.2
  have hO9 : rf_O w < 11 := hV.1.2.2.2
  have hIs := hV.2.1 s hs
  have hk13 : rf_kn w s < 13 := hIs.2.2.2.2.1.2
  refine am_iload_n (pc := 0) C dX6_firstKnown_0 rfl ?_
  refine am_aload_n (pc := 1) C dX6_firstKnown_1 rfl ?_
  refine am_getR (pc := 2) (j := 25) C dX6_firstKnown_2 f6_26 bn_314 sh_314 (rf_314_2 hR) ?_
  refine am_getR (pc := 5) (j := 28) C dX6_firstKnown_5 f6_44 bn_25 sh_25 (rf_25_7 hR) ?_
  refine am_iload_n (pc := 8) C dX6_firstKnown_8 rfl ?_
  refine am_callSNi (Y := mX11_pick) (pc := 9) (st := [.int (nI n)]) (As := [.ref 28, .int (nI s)]) (x := ((h 28) s)) (h2 := h) C dX6_firstKnown_9 k6_40 v_X11_pick rfl rfl (by decide) (Nat.zero_le _) (Nat.zero_le _) (Nat.le_of_ble_eq_true rfl) (c_X11_pick 28 s 10 bn_28 sh_28 (show s < 10 from by omega) (by decide)) ?_
  refine am_top (show ((h 28) s) = (nI (rf_kn w s)) from ((hSc.2.1 s (by omega)).2.2.1.trans (hV.2.1 s (by omega)).2.2.2.2.1.1)) ?_
  refine am_callSi (Y := mJ9_min_7cf53) (pc := 12) (st := []) (As := [.int (nI n), .int (nI (rf_kn w s))]) (x := (rf_min (nI n) (nI (rf_kn w s)))) (h2 := h) C dX6_firstKnown_12 k6_114 v_J9_min_7cf53 rfl rfl (by decide) (Nat.zero_le _) (Nat.zero_le _) (Nat.le_of_ble_eq_true rfl) (c_J9_min_7cf53 hR (nI n) (nI (rf_kn w s))) ?_
  refine am_top (show (rf_min (nI n) (nI (rf_kn w s))) = (nI (min (rf_kn w s) n)) from (by rw [rf_min_N (by omega) (by omega), Nat.min_comm])) ?_
  refine am_istore_n (pc := 15) (ls' := [(0, .ref 314), (1, .int (nI s)), (2, .int (nI n)), (3, .int (nI (min (rf_kn w s) n)))]) C dX6_firstKnown_15 (by decide) rfl ?_
  refine am_iconstN (pc := 16) (k := 0) C dX6_firstKnown_16 ?_
  refine am_istore (pc := 17) (ls' := [(0, .ref 314), (1, .int (nI s)), (2, .int (nI n)), (3, .int (nI (min (rf_kn w s) n))), (4, .int (nI 0))]) C dX6_firstKnown_17 (by decide) rfl ?_
  refine am_iconstN (pc := 19) (k := 0) C dX6_firstKnown_19 ?_
  refine am_istore (pc := 20) (ls' := [(0, .ref 314), (1, .int (nI s)), (2, .int (nI n)), (3, .int (nI (min (rf_kn w s) n))), (4, .int (nI 0)), (5, .int (nI 0))]) C dX6_firstKnown_20 (by decide) rfl ?_
  have L22 : ∀ (j22 i22 : Nat), i22 + j22 = min (rf_kn w s) n → am_G X (am_VV ad) (0, 0) 22 [(0, .ref 314), (1, .int (nI s)), (2, .int (nI n)), (3, .int (nI (min (rf_kn w s) n))), (4, .int (rf_bits (rf_li w s) i22)), (5, .int (nI i22))] [] r h := by
    intro j22
    induction j22 with
    | zero =>
      intro i22 hi22 
      obtain rfl : i22 = min (rf_kn w s) n := by omega
      refine am_iload (pc := 22) C dX6_firstKnown_22 rfl ?_
      refine am_iload_n (pc := 24) C dX6_firstKnown_24 rfl ?_
      refine am_icmp_geN (pc := 25) (tgt := 51) C dX6_firstKnown_25 (by decide) (by omega) (by omega) (fun q25 => ?_) (fun q25 => ?_)
      · skip
        refine am_iload (pc := 51) C dX6_firstKnown_51 rfl ?_
        exact am_ireti T dX6_firstKnown_53 rfl (Nat.le_refl _) (Nat.le_refl _) rfl rfl rfl
      · skip
        exact absurd q25 (by omega)
    | succ j22 ih22 =>
      intro i22 hi22 
      have hl22 : i22 < min (rf_kn w s) n := by omega
      refine am_iload (pc := 22) C dX6_firstKnown_22 rfl ?_
      refine am_iload_n (pc := 24) C dX6_firstKnown_24 rfl ?_
      refine am_icmp_geN (pc := 25) (tgt := 51) C dX6_firstKnown_25 (by decide) (by omega) (by omega) (fun q25 => ?_) (fun q25 => ?_)
      · skip
        exact absurd q25 (by omega)
      · skip
        refine am_iload (pc := 28) C dX6_firstKnown_28 rfl ?_
        refine am_iconstN (pc := 30) (k := 1) C dX6_firstKnown_30 ?_
        refine am_aload_n (pc := 31) C dX6_firstKnown_31 rfl ?_
        refine am_getR (pc := 32) (j := 25) C dX6_firstKnown_32 f6_26 bn_314 sh_314 (rf_314_2 hR) ?_
        refine am_iload_n (pc := 35) C dX6_firstKnown_35 rfl ?_
        refine am_iload (pc := 36) C dX6_firstKnown_36 rfl ?_
        refine am_callVi (Y := mX5_knownAt) (pc := 38) (st := [.int (nI 1), .int (rf_bits (rf_li w s) i22)]) (As := [.int (nI s), .int (nI i22)]) (x := (nI (rf_li w s i22))) (h2 := h) C dX6_firstKnown_38 k6_49 v_X5_knownAt rfl rfl bn_25 sh_25 ⟨by decide, rfl⟩ (by decide) (Nat.zero_le _) (Nat.zero_le _) (Nat.le_of_ble_eq_true rfl) (c_X5_knownAt hR s i22 w hV hSc hs (show i22 < rf_kn w s from by omega)) ?_
        refine am_ishl (pc := 41) C dX6_firstKnown_41 ?_
        refine am_ior (pc := 42) C dX6_firstKnown_42 ?_
        refine am_istore (pc := 43) (ls' := [(0, .ref 314), (1, .int (nI s)), (2, .int (nI n)), (3, .int (nI (min (rf_kn w s) n))), (4, .int ((rf_bits (rf_li w s) i22) ||| ((nI 1) <<< ((nI (rf_li w s i22)) &&& 31)))), (5, .int (nI i22))]) C dX6_firstKnown_43 (by decide) rfl ?_
        refine am_iincN (pc := 45) (ls' := [(0, .ref 314), (1, .int (nI s)), (2, .int (nI n)), (3, .int (nI (min (rf_kn w s) n))), (4, .int ((rf_bits (rf_li w s) i22) ||| ((nI 1) <<< ((nI (rf_li w s i22)) &&& 31)))), (5, .int (nI (i22 + 1)))]) C dX6_firstKnown_45 rfl (am_up1 _) (by decide) rfl ?_
        refine am_goto (pc := 48) (tgt := 22) C dX6_firstKnown_48 (by decide) ?_
        refine am_lsv (ls' := [(0, .ref 314), (1, .int (nI s)), (2, .int (nI n)), (3, .int (nI (min (rf_kn w s) n))), (4, .int (rf_bits (rf_li w s) (i22 + 1))), (5, .int (nI (i22 + 1)))]) (by rw [show ((rf_bits (rf_li w s) i22) ||| ((nI 1) <<< ((nI (rf_li w s i22)) &&& 31))) = (rf_bits (rf_li w s) (i22 + 1)) from rfl]) ?_
        exact ih22 (i22 + 1) (by omega) 
  exact L22 (min (rf_kn w s) n) 0 (by omega) 

set_option maxHeartbeats 400000 in
set_option maxRecDepth 100000 in
theorem c_X6_obeyedByChildren {ad : Nat → Nat} {r : am_R} (hR : am_rs r) {h : am_H} (n : Nat) (w : rf_W) (hV : rf_I w) (hLo : cl_Lo (h) 4 w) (hSc : cl_Sc (h) 25 w) (hn : n < 1000)  : am_CM mX6_obeyedByChildren 3 0 0 [.ref 314, .int (nI n)] (am_VV ad) r h (am_po (some (.int (rf_obeyed w n))) r h) := by
  refine am_CM.of (by decide +kernel) (Nat.le_of_ble_eq_true rfl) (fun X C T => ?_)
  show am_G X (am_VV ad) (0, 0) 0 [(0, .ref 314), (1, .int (nI n))] [] r h
  have hM9 : rf_M w < 17 := hV.1.1.2
  have hS9 : rf_S w < 11 := hV.1.2.1.2
  have hO9 : rf_O w < 11 := hV.1.2.2.2
  refine am_iconstN (pc := 0) (k := 0) C dX6_obeyedByChildren_0 ?_
  refine am_istore_n (pc := 1) (ls' := [(0, .ref 314), (1, .int (nI n)), (2, .int (nI 0))]) C dX6_obeyedByChildren_1 (by decide) rfl ?_
  refine am_iconstN (pc := 2) (k := 0) C dX6_obeyedByChildren_2 ?_
  refine am_istore_n (pc := 3) (ls' := [(0, .ref 314), (1, .int (nI n)), (2, .int (nI 0)), (3, .int (nI 0))]) C dX6_obeyedByChildren_3 (by decide) rfl ?_
  have L4 : ∀ (j4 i4 : Nat), i4 + j4 = rf_O w → am_G X (am_VV ad) (0, 0) 4 [(0, .ref 314), (1, .int (nI n)), (2, .int (rf_set (fun o => decide (rf_ord w o 1 &&& (rf_usable w (rf_first w (rf_nat (rf_ord w o 0)) n) ^^^ (-1)) = 0)) i4)), (3, .int (nI i4))] [] r h := by
    intro j4
    induction j4 with
    | zero =>
      intro i4 hi4 
      obtain rfl : i4 = rf_O w := by omega
      refine am_iload_n (pc := 4) C dX6_obeyedByChildren_4 rfl ?_
      refine am_aload_n (pc := 5) C dX6_obeyedByChildren_5 rfl ?_
      refine am_getR (pc := 6) (j := 4) C dX6_obeyedByChildren_6 f6_21 bn_314 sh_314 (rf_314_1 hR) ?_
      refine am_getI (pc := 9) C dX6_obeyedByChildren_9 f6_99 bn_4 sh_4 ?_
      refine am_top (show ((h 4) 3) = (nI (rf_O w)) from (hLo.1.2.2.2.trans hV.1.2.2.1)) ?_
      refine am_icmp_geN (pc := 12) (tgt := 71) C dX6_obeyedByChildren_12 (by decide) (by omega) (by omega) (fun q12 => ?_) (fun q12 => ?_)
      · skip
        refine am_iload_n (pc := 71) C dX6_obeyedByChildren_71 rfl ?_
        exact am_ireti T dX6_obeyedByChildren_72 rfl (Nat.le_refl _) (Nat.le_refl _) rfl rfl rfl
      · skip
        exact absurd q12 (by omega)
    | succ j4 ih4 =>
      intro i4 hi4 
      have hl4 : i4 < rf_O w := by omega
      have ho9 := (hV.2.2.2.1 i4 hl4).1.2
      refine am_iload_n (pc := 4) C dX6_obeyedByChildren_4 rfl ?_
      refine am_aload_n (pc := 5) C dX6_obeyedByChildren_5 rfl ?_
      refine am_getR (pc := 6) (j := 4) C dX6_obeyedByChildren_6 f6_21 bn_314 sh_314 (rf_314_1 hR) ?_
      refine am_getI (pc := 9) C dX6_obeyedByChildren_9 f6_99 bn_4 sh_4 ?_
      refine am_top (show ((h 4) 3) = (nI (rf_O w)) from (hLo.1.2.2.2.trans hV.1.2.2.1)) ?_
      refine am_icmp_geN (pc := 12) (tgt := 71) C dX6_obeyedByChildren_12 (by decide) (by omega) (by omega) (fun q12 => ?_) (fun q12 => ?_)
      · skip
        exact absurd q12 (by omega)
      · skip
        refine am_aload_n (pc := 15) C dX6_obeyedByChildren_15 rfl ?_
        refine am_getR (pc := 16) (j := 4) C dX6_obeyedByChildren_16 f6_21 bn_314 sh_314 (rf_314_1 hR) ?_
        refine am_aload_n (pc := 19) C dX6_obeyedByChildren_19 rfl ?_
        refine am_aload_n (pc := 20) C dX6_obeyedByChildren_20 rfl ?_
        refine am_getR (pc := 21) (j := 4) C dX6_obeyedByChildren_21 f6_21 bn_314 sh_314 (rf_314_1 hR) ?_
        refine am_getR (pc := 24) (j := 14) C dX6_obeyedByChildren_24 f6_102 bn_4 sh_4 (rf_4_13 hR) ?_
        refine am_iload_n (pc := 27) C dX6_obeyedByChildren_27 rfl ?_
        refine am_callSNi (Y := mX11_pick) (pc := 28) (st := [.ref 314, .ref 4]) (As := [.ref 14, .int (nI i4)]) (x := ((h 14) i4)) (h2 := h) C dX6_obeyedByChildren_28 k6_40 v_X11_pick rfl rfl (by decide) (Nat.zero_le _) (Nat.zero_le _) (Nat.le_of_ble_eq_true rfl) (c_X11_pick 14 i4 10 bn_14 sh_14 (show i4 < 10 from by omega) (by decide)) ?_
        refine am_top (show ((h 14) i4) = (nI (rf_nat (rf_ord w i4 0))) from ((hLo.2.2.2.1 i4 (by omega)).1.trans (hV.2.2.2.1 i4 (by omega)).1.1)) ?_
        refine am_iload_n (pc := 31) C dX6_obeyedByChildren_31 rfl ?_
        refine am_callVi (Y := mX6_firstKnown) (pc := 32) (st := [.ref 4]) (As := [.int (nI (rf_nat (rf_ord w i4 0))), .int (nI n)]) (x := (rf_first w (rf_nat (rf_ord w i4 0)) n)) (h2 := h) C dX6_obeyedByChildren_32 k6_105 v_X6_firstKnown rfl rfl bn_314 sh_314 ⟨by decide, rfl⟩ (by decide) (Nat.zero_le _) (Nat.zero_le _) (Nat.le_of_ble_eq_true rfl) (c_X6_firstKnown hR (rf_nat (rf_ord w i4 0)) n w hV hLo hSc (show (rf_nat (rf_ord w i4 0)) < rf_S w from by omega) hn) ?_
        refine am_callVi (Y := mX3_usableOf) (pc := 35) (st := []) (As := [.int (rf_first w (rf_nat (rf_ord w i4 0)) n)]) (x := (rf_usable w (rf_first w (rf_nat (rf_ord w i4 0)) n))) (h2 := h) C dX6_obeyedByChildren_35 k6_108 v_X3_usableOf rfl rfl bn_4 sh_4 ⟨by decide, rfl⟩ (by decide) (Nat.zero_le _) (Nat.zero_le _) (Nat.le_of_ble_eq_true rfl) (c_X3_usableOf hR (rf_first w (rf_nat (rf_ord w i4 0)) n) w hV hLo) ?_
        refine am_istore (pc := 38) (ls' := [(0, .ref 314), (1, .int (nI n)), (2, .int (rf_set (fun o => decide (rf_ord w o 1 &&& (rf_usable w (rf_first w (rf_nat (rf_ord w o 0)) n) ^^^ (-1)) = 0)) i4)), (3, .int (nI i4)), (4, .int (rf_usable w (rf_first w (rf_nat (rf_ord w i4 0)) n)))]) C dX6_obeyedByChildren_38 (by decide) rfl ?_
        refine am_aload_n (pc := 40) C dX6_obeyedByChildren_40 rfl ?_
        refine am_getR (pc := 41) (j := 4) C dX6_obeyedByChildren_41 f6_21 bn_314 sh_314 (rf_314_1 hR) ?_
        refine am_getR (pc := 44) (j := 15) C dX6_obeyedByChildren_44 f6_111 bn_4 sh_4 (rf_4_14 hR) ?_
        refine am_iload_n (pc := 47) C dX6_obeyedByChildren_47 rfl ?_
        refine am_callSNi (Y := mX11_pick) (pc := 48) (st := []) (As := [.ref 15, .int (nI i4)]) (x := ((h 15) i4)) (h2 := h) C dX6_obeyedByChildren_48 k6_40 v_X11_pick rfl rfl (by decide) (Nat.zero_le _) (Nat.zero_le _) (Nat.le_of_ble_eq_true rfl) (c_X11_pick 15 i4 10 bn_15 sh_15 (show i4 < 10 from by omega) (by decide)) ?_
        refine am_top (show ((h 15) i4) = (rf_ord w i4 1) from (hLo.2.2.2.1 i4 (by omega)).2) ?_
        refine am_iload (pc := 51) C dX6_obeyedByChildren_51 rfl ?_
        refine am_iconst (pc := 53) (v := -1) C dX6_obeyedByChildren_53 rfl ?_
        refine am_ixor (pc := 54) C dX6_obeyedByChildren_54 ?_
        refine am_iand (pc := 55) C dX6_obeyedByChildren_55 ?_
        refine am_if_ne (pc := 56) (tgt := 65) C dX6_obeyedByChildren_56 (by decide) (fun q56 => ?_) (fun q56 => ?_)
        · skip
          refine am_iincN (pc := 65) (ls' := [(0, .ref 314), (1, .int (nI n)), (2, .int (rf_set (fun o => decide (rf_ord w o 1 &&& (rf_usable w (rf_first w (rf_nat (rf_ord w o 0)) n) ^^^ (-1)) = 0)) i4)), (3, .int (nI (i4 + 1))), (4, .int (rf_usable w (rf_first w (rf_nat (rf_ord w i4 0)) n)))]) C dX6_obeyedByChildren_65 rfl (am_up1 _) (by decide) rfl ?_
          refine am_goto (pc := 68) (tgt := 4) C dX6_obeyedByChildren_68 (by decide) ?_
          refine am_sub (ls' := [(0, .ref 314), (1, .int (nI n)), (2, .int (rf_set (fun o => decide (rf_ord w o 1 &&& (rf_usable w (rf_first w (rf_nat (rf_ord w o 0)) n) ^^^ (-1)) = 0)) i4)), (3, .int (nI (i4 + 1)))]) (by intro q hq; simp only [List.mem_cons, List.not_mem_nil, or_false] at hq ⊢; rcases hq with rfl | rfl | rfl | rfl <;> simp) ?_
          refine am_lsv (ls' := [(0, .ref 314), (1, .int (nI n)), (2, .int (rf_set (fun o => decide (rf_ord w o 1 &&& (rf_usable w (rf_first w (rf_nat (rf_ord w o 0)) n) ^^^ (-1)) = 0)) (i4 + 1))), (3, .int (nI (i4 + 1)))]) (by rw [show (rf_set (fun o => decide (rf_ord w o 1 &&& (rf_usable w (rf_first w (rf_nat (rf_ord w o 0)) n) ^^^ (-1)) = 0)) i4) = (rf_set (fun o => decide (rf_ord w o 1 &&& (rf_usable w (rf_first w (rf_nat (rf_ord w o 0)) n) ^^^ (-1)) = 0)) (i4 + 1)) from rf_set_n (decide_eq_false q56)]) ?_
          exact ih4 (i4 + 1) (by omega) 
        · skip
          refine am_iload_n (pc := 59) C dX6_obeyedByChildren_59 rfl ?_
          refine am_iconstN (pc := 60) (k := 1) C dX6_obeyedByChildren_60 ?_
          refine am_iload_n (pc := 61) C dX6_obeyedByChildren_61 rfl ?_
          refine am_ishl (pc := 62) C dX6_obeyedByChildren_62 ?_
          refine am_ior (pc := 63) C dX6_obeyedByChildren_63 ?_
          refine am_istore_n (pc := 64) (ls' := [(0, .ref 314), (1, .int (nI n)), (2, .int ((rf_set (fun o => decide (rf_ord w o 1 &&& (rf_usable w (rf_first w (rf_nat (rf_ord w o 0)) n) ^^^ (-1)) = 0)) i4) ||| ((nI 1) <<< ((nI i4) &&& 31)))), (3, .int (nI i4)), (4, .int (rf_usable w (rf_first w (rf_nat (rf_ord w i4 0)) n)))]) C dX6_obeyedByChildren_64 (by decide) rfl ?_
          refine am_iincN (pc := 65) (ls' := [(0, .ref 314), (1, .int (nI n)), (2, .int ((rf_set (fun o => decide (rf_ord w o 1 &&& (rf_usable w (rf_first w (rf_nat (rf_ord w o 0)) n) ^^^ (-1)) = 0)) i4) ||| ((nI 1) <<< ((nI i4) &&& 31)))), (3, .int (nI (i4 + 1))), (4, .int (rf_usable w (rf_first w (rf_nat (rf_ord w i4 0)) n)))]) C dX6_obeyedByChildren_65 rfl (am_up1 _) (by decide) rfl ?_
          refine am_goto (pc := 68) (tgt := 4) C dX6_obeyedByChildren_68 (by decide) ?_
          refine am_sub (ls' := [(0, .ref 314), (1, .int (nI n)), (2, .int ((rf_set (fun o => decide (rf_ord w o 1 &&& (rf_usable w (rf_first w (rf_nat (rf_ord w o 0)) n) ^^^ (-1)) = 0)) i4) ||| ((nI 1) <<< ((nI i4) &&& 31)))), (3, .int (nI (i4 + 1)))]) (by intro q hq; simp only [List.mem_cons, List.not_mem_nil, or_false] at hq ⊢; rcases hq with rfl | rfl | rfl | rfl <;> simp) ?_
          refine am_lsv (ls' := [(0, .ref 314), (1, .int (nI n)), (2, .int (rf_set (fun o => decide (rf_ord w o 1 &&& (rf_usable w (rf_first w (rf_nat (rf_ord w o 0)) n) ^^^ (-1)) = 0)) (i4 + 1))), (3, .int (nI (i4 + 1)))]) (by rw [show ((rf_set (fun o => decide (rf_ord w o 1 &&& (rf_usable w (rf_first w (rf_nat (rf_ord w o 0)) n) ^^^ (-1)) = 0)) i4) ||| ((nI 1) <<< ((nI i4) &&& 31))) = (rf_set (fun o => decide (rf_ord w o 1 &&& (rf_usable w (rf_first w (rf_nat (rf_ord w o 0)) n) ^^^ (-1)) = 0)) (i4 + 1)) from rf_set_t (decide_eq_true q56)]) ?_
          exact ih4 (i4 + 1) (by omega) 
  refine am_sub (ls' := [(0, .ref 314), (1, .int (nI n)), (2, .int (nI 0)), (3, .int (nI 0))]) (by intro q hq; simp only [List.mem_cons, List.not_mem_nil, or_false] at hq ⊢; rcases hq with rfl | rfl | rfl | rfl <;> simp) ?_
  exact L4 (rf_O w) 0 (by omega) 

set_option maxHeartbeats 400000 in
set_option maxRecDepth 100000 in
theorem c_X6_tooManyFor {ad : Nat → Nat} {r : am_R} (hR : am_rs r) {h : am_H} (a : Nat) (b : Nat) (w : rf_W) (hV : rf_I w) (hLo : cl_Lo (h) 4 w) (hSc : cl_Sc (h) 25 w) (ha : a < rf_S w) (hb : b < rf_S w)  : am_CM mX6_tooManyFor 1 0 0 [.ref 314, .int (nI a), .int (nI b)] (am_VV ad) r h (am_po (some (.int (am_b (rf_many w a b)))) r h) := by
  refine am_CM.of (by decide +kernel) (Nat.le_of_ble_eq_true rfl) (fun X C T => ?_)
  show am_G X (am_VV ad) (0, 0) 0 [(0, .ref 314), (1, .int (nI a)), (2, .int (nI b))] [] r h
  have hM9 : rf_M w < 17 := hV.1.1.2
  have hS9 : rf_S w < 11 := hV.1.2.1.2
  have hO9 : rf_O w < 11 := hV.1.2.2.2
  have hka : rf_kn w a < 13 := (hV.2.1 a ha).2.2.2.2.1.2
  have hkb : rf_kn w b < 13 := (hV.2.1 b hb).2.2.2.2.1.2
  refine am_aload_n (pc := 0) C dX6_tooManyFor_0 rfl ?_
  refine am_getR (pc := 1) (j := 25) C dX6_tooManyFor_1 f6_26 bn_314 sh_314 (rf_314_2 hR) ?_
  refine am_getR (pc := 4) (j := 28) C dX6_tooManyFor_4 f6_44 bn_25 sh_25 (rf_25_7 hR) ?_
  refine am_iload_n (pc := 7) C dX6_tooManyFor_7 rfl ?_
  refine am_callSNi (Y := mX11_pick) (pc := 8) (st := []) (As := [.ref 28, .int (nI a)]) (x := ((h 28) a)) (h2 := h) C dX6_tooManyFor_8 k6_40 v_X11_pick rfl rfl (by decide) (Nat.zero_le _) (Nat.zero_le _) (Nat.le_of_ble_eq_true rfl) (c_X11_pick 28 a 10 bn_28 sh_28 (show a < 10 from by omega) (by decide)) ?_
  refine am_top (show ((h 28) a) = (nI (rf_kn w a)) from ((hSc.2.1 a (by omega)).2.2.1.trans (hV.2.1 a (by omega)).2.2.2.2.1.1)) ?_
  refine am_bipush (pc := 11) (v := nI 7) C dX6_tooManyFor_11 (by decide) ?_
  refine am_icmp_gtN (pc := 13) (tgt := 32) C dX6_tooManyFor_13 (by decide) (by omega) (by omega) (fun q13 => ?_) (fun q13 => ?_)
  · skip
    refine am_iconstN (pc := 32) (k := 1) C dX6_tooManyFor_32 ?_
    refine am_goto (pc := 33) (tgt := 37) C dX6_tooManyFor_33 (by decide) ?_
    exact am_iretb T dX6_tooManyFor_37 rfl (Nat.le_refl _) (Nat.le_refl _) (by rw [rf_many]; first | (rw [decide_eq_true q13]; rfl) | (rw [decide_eq_false (Nat.not_lt.mpr q13), decide_eq_true (by omega)]; rfl) | (rw [decide_eq_false (Nat.not_lt.mpr q13), decide_eq_false (by omega)]; rfl)) rfl rfl
  · skip
    refine am_aload_n (pc := 16) C dX6_tooManyFor_16 rfl ?_
    refine am_getR (pc := 17) (j := 25) C dX6_tooManyFor_17 f6_26 bn_314 sh_314 (rf_314_2 hR) ?_
    refine am_getR (pc := 20) (j := 28) C dX6_tooManyFor_20 f6_44 bn_25 sh_25 (rf_25_7 hR) ?_
    refine am_iload_n (pc := 23) C dX6_tooManyFor_23 rfl ?_
    refine am_callSNi (Y := mX11_pick) (pc := 24) (st := []) (As := [.ref 28, .int (nI b)]) (x := ((h 28) b)) (h2 := h) C dX6_tooManyFor_24 k6_40 v_X11_pick rfl rfl (by decide) (Nat.zero_le _) (Nat.zero_le _) (Nat.le_of_ble_eq_true rfl) (c_X11_pick 28 b 10 bn_28 sh_28 (show b < 10 from by omega) (by decide)) ?_
    refine am_top (show ((h 28) b) = (nI (rf_kn w b)) from ((hSc.2.1 b (by omega)).2.2.1.trans (hV.2.1 b (by omega)).2.2.2.2.1.1)) ?_
    refine am_bipush (pc := 27) (v := nI 7) C dX6_tooManyFor_27 (by decide) ?_
    refine am_icmp_leN (pc := 29) (tgt := 36) C dX6_tooManyFor_29 (by decide) (by omega) (by omega) (fun q29 => ?_) (fun q29 => ?_)
    · skip
      refine am_iconstN (pc := 36) (k := 0) C dX6_tooManyFor_36 ?_
      exact am_iretb T dX6_tooManyFor_37 rfl (Nat.le_refl _) (Nat.le_refl _) (by rw [rf_many]; first | (rw [decide_eq_true q13]; rfl) | (rw [decide_eq_false (Nat.not_lt.mpr q13), decide_eq_true (by omega)]; rfl) | (rw [decide_eq_false (Nat.not_lt.mpr q13), decide_eq_false (by omega)]; rfl)) rfl rfl
    · skip
      refine am_iconstN (pc := 32) (k := 1) C dX6_tooManyFor_32 ?_
      refine am_goto (pc := 33) (tgt := 37) C dX6_tooManyFor_33 (by decide) ?_
      exact am_iretb T dX6_tooManyFor_37 rfl (Nat.le_refl _) (Nat.le_refl _) (by rw [rf_many]; first | (rw [decide_eq_true q13]; rfl) | (rw [decide_eq_false (Nat.not_lt.mpr q13), decide_eq_true (by omega)]; rfl) | (rw [decide_eq_false (Nat.not_lt.mpr q13), decide_eq_false (by omega)]; rfl)) rfl rfl

set_option maxHeartbeats 400000 in
set_option maxRecDepth 100000 in
theorem c_X6_rootsOf {ad : Nat → Nat} {r : am_R} (hR : am_rs r) {h : am_H} (s : Nat) (w : rf_W) (hV : rf_I w) (hLo : cl_Lo (h) 4 w) (hSc : cl_Sc (h) 25 w) (hs : s < rf_S w)  : am_CM mX6_rootsOf 2 0 0 [.ref 314, .int (nI s)] (am_VV ad) r h (am_po (some (.int (rf_roots w (rf_known w s)))) r h) := by
  refine am_CM.of (by decide +kernel) (Nat.le_of_ble_eq_true rfl) (fun X C T => ?_)
  show am_G X (am_VV ad) (0, 0) 0 [(0, .ref 314), (1, .int (nI s))] [] r h
  have hM9 : rf_M w < 17 := hV.1.1.2
  have hS9 : rf_S w < 11 := hV.1.2.1.2
  have hO9 : rf_O w < 11 := hV.1.2.2.2
  refine am_aload_n (pc := 0) C dX6_rootsOf_0 rfl ?_
  refine am_getR (pc := 1) (j := 4) C dX6_rootsOf_1 f6_21 bn_314 sh_314 (rf_314_1 hR) ?_
  refine am_aload_n (pc := 4) C dX6_rootsOf_4 rfl ?_
  refine am_getR (pc := 5) (j := 25) C dX6_rootsOf_5 f6_26 bn_314 sh_314 (rf_314_2 hR) ?_
  refine am_getR (pc := 8) (j := 29) C dX6_rootsOf_8 f6_120 bn_25 sh_25 (rf_25_8 hR) ?_
  refine am_iload_n (pc := 11) C dX6_rootsOf_11 rfl ?_
  refine am_callSNi (Y := mX11_pick) (pc := 12) (st := [.ref 4]) (As := [.ref 29, .int (nI s)]) (x := ((h 29) s)) (h2 := h) C dX6_rootsOf_12 k6_40 v_X11_pick rfl rfl (by decide) (Nat.zero_le _) (Nat.zero_le _) (Nat.le_of_ble_eq_true rfl) (c_X11_pick 29 s 10 bn_29 sh_29 (show s < 10 from by omega) (by decide)) ?_
  refine am_top (show ((h 29) s) = (rf_known w s) from (hSc.2.1 s (by omega)).2.2.2.1) ?_
  refine am_callVi (Y := mX3_rootsIn) (pc := 15) (st := []) (As := [.int (rf_known w s)]) (x := (rf_roots w (rf_known w s))) (h2 := h) C dX6_rootsOf_15 k6_123 v_X3_rootsIn rfl rfl bn_4 sh_4 ⟨by decide, rfl⟩ (by decide) (Nat.zero_le _) (Nat.zero_le _) (Nat.le_of_ble_eq_true rfl) (c_X3_rootsIn hR (rf_known w s) w hV hLo) ?_
  exact am_ireti T dX6_rootsOf_18 rfl (Nat.le_refl _) (Nat.le_refl _) rfl rfl rfl

set_option maxHeartbeats 400000 in
set_option maxRecDepth 100000 in
theorem c_X6_winsRace {ad : Nat → Nat} {r : am_R} (hR : am_rs r) {h : am_H} (x : Nat) (y : Nat) (hx : x < 100) (hy : y < 100)  : am_CM mX6_winsRace 0 0 0 [.int (nI x), .int (nI y)] (am_VV ad) r h (am_po (some (.int (am_b (rf_race x y)))) r h) := by
  refine am_CM.of (by decide +kernel) (Nat.le_of_ble_eq_true rfl) (fun X C T => ?_)
  show am_G X (am_VV ad) (0, 0) 0 [(0, .int (nI x)), (1, .int (nI y))] [] r h
  refine am_iload_n (pc := 0) C dX6_winsRace_0 rfl ?_
  refine am_iconstN (pc := 1) (k := 1) C dX6_winsRace_1 ?_
  refine am_icmp_ltN (pc := 2) (tgt := 14) C dX6_winsRace_2 (by decide) (by omega) (by omega) (fun q2 => ?_) (fun q2 => ?_)
  · skip
    refine am_iconstN (pc := 14) (k := 0) C dX6_winsRace_14 ?_
    exact am_iretb T dX6_winsRace_15 rfl (Nat.le_refl _) (Nat.le_refl _) (by rw [rf_race]; first | (rw [decide_eq_false (by omega)]; rfl) | (rw [decide_eq_true (by omega), decide_eq_false (by omega)]; rfl) | (rw [decide_eq_true (by omega), decide_eq_true (by omega)]; rfl)) rfl rfl
  · skip
    refine am_iload_n (pc := 5) C dX6_winsRace_5 rfl ?_
    refine am_iload_n (pc := 6) C dX6_winsRace_6 rfl ?_
    refine am_icmp_ltN (pc := 7) (tgt := 14) C dX6_winsRace_7 (by decide) (by omega) (by omega) (fun q7 => ?_) (fun q7 => ?_)
    · skip
      refine am_iconstN (pc := 14) (k := 0) C dX6_winsRace_14 ?_
      exact am_iretb T dX6_winsRace_15 rfl (Nat.le_refl _) (Nat.le_refl _) (by rw [rf_race]; first | (rw [decide_eq_false (by omega)]; rfl) | (rw [decide_eq_true (by omega), decide_eq_false (by omega)]; rfl) | (rw [decide_eq_true (by omega), decide_eq_true (by omega)]; rfl)) rfl rfl
    · skip
      refine am_iconstN (pc := 10) (k := 1) C dX6_winsRace_10 ?_
      refine am_goto (pc := 11) (tgt := 15) C dX6_winsRace_11 (by decide) ?_
      exact am_iretb T dX6_winsRace_15 rfl (Nat.le_refl _) (Nat.le_refl _) (by rw [rf_race]; first | (rw [decide_eq_false (by omega)]; rfl) | (rw [decide_eq_true (by omega), decide_eq_false (by omega)]; rfl) | (rw [decide_eq_true (by omega), decide_eq_true (by omega)]; rfl)) rfl rfl

set_option maxHeartbeats 400000 in
set_option maxRecDepth 100000 in
theorem c_X6_isPeaceful {ad : Nat → Nat} {r : am_R} (hR : am_rs r) {h : am_H} (set : Int32) (w : rf_W) (hV : rf_I w) (hLo : cl_Lo (h) 4 w) (hSc : cl_Sc (h) 25 w)  : am_CM mX6_isPeaceful 1 0 0 [.ref 314, .int set] (am_VV ad) r h (am_po (some (.int (am_b (rf_peace w set)))) r h) := by
  refine am_CM.of (by decide +kernel) (Nat.le_of_ble_eq_true rfl) (fun X C T => ?_)
  show am_G X (am_VV ad) (0, 0) 0 [(0, .ref 314), (1, .int set)] [] r h
  have hM9 : rf_M w < 17 := hV.1.1.2
  have hS9 : rf_S w < 11 := hV.1.2.1.2
  have hO9 : rf_O w < 11 := hV.1.2.2.2
  refine am_iconstN (pc := 0) (k := 0) C dX6_isPeaceful_0 ?_
  refine am_istore_n (pc := 1) (ls' := [(0, .ref 314), (1, .int set), (2, .int (nI 0))]) C dX6_isPeaceful_1 (by decide) rfl ?_
  have L2 : ∀ (j2 i2 : Nat), i2 + j2 = rf_M w → (hpe : rf_pe w set i2 = true) → am_G X (am_VV ad) (0, 0) 2 [(0, .ref 314), (1, .int set), (2, .int (nI i2))] [] r h := by
    intro j2
    induction j2 with
    | zero =>
      intro i2 hi2 hpe
      obtain rfl : i2 = rf_M w := by omega
      refine am_iload_n (pc := 2) C dX6_isPeaceful_2 rfl ?_
      refine am_aload_n (pc := 3) C dX6_isPeaceful_3 rfl ?_
      refine am_getR (pc := 4) (j := 4) C dX6_isPeaceful_4 f6_21 bn_314 sh_314 (rf_314_1 hR) ?_
      refine am_getI (pc := 7) C dX6_isPeaceful_7 f6_67 bn_4 sh_4 ?_
      refine am_top (show ((h 4) 1) = (nI (rf_M w)) from (hLo.1.2.1.trans hV.1.1.1)) ?_
      refine am_icmp_geN (pc := 10) (tgt := 45) C dX6_isPeaceful_10 (by decide) (by omega) (by omega) (fun q10 => ?_) (fun q10 => ?_)
      · skip
        refine am_iconstN (pc := 45) (k := 1) C dX6_isPeaceful_45 ?_
        exact am_iretb T dX6_isPeaceful_46 rfl (Nat.le_refl _) (Nat.le_refl _) (by rw [rf_peace, hpe]; rfl) rfl rfl
      · skip
        exact absurd q10 (by omega)
    | succ j2 ih2 =>
      intro i2 hi2 hpe
      have hl2 : i2 < rf_M w := by omega
      refine am_iload_n (pc := 2) C dX6_isPeaceful_2 rfl ?_
      refine am_aload_n (pc := 3) C dX6_isPeaceful_3 rfl ?_
      refine am_getR (pc := 4) (j := 4) C dX6_isPeaceful_4 f6_21 bn_314 sh_314 (rf_314_1 hR) ?_
      refine am_getI (pc := 7) C dX6_isPeaceful_7 f6_67 bn_4 sh_4 ?_
      refine am_top (show ((h 4) 1) = (nI (rf_M w)) from (hLo.1.2.1.trans hV.1.1.1)) ?_
      refine am_icmp_geN (pc := 10) (tgt := 45) C dX6_isPeaceful_10 (by decide) (by omega) (by omega) (fun q10 => ?_) (fun q10 => ?_)
      · skip
        exact absurd q10 (by omega)
      · skip
        refine am_iload_n (pc := 13) C dX6_isPeaceful_13 rfl ?_
        refine am_iload_n (pc := 14) C dX6_isPeaceful_14 rfl ?_
        refine am_callSNi (Y := mX11_has) (pc := 15) (st := []) (As := [.int set, .int (nI i2)]) (x := (am_b (am_bt set i2))) (h2 := h) C dX6_isPeaceful_15 k6_53 v_X11_has rfl rfl (by decide) (Nat.zero_le _) (Nat.zero_le _) (Nat.le_of_ble_eq_true rfl) (c_X11_has set i2 (show i2 < 32 from by omega)) ?_
        refine am_if_eqB (pc := 18) (tgt := 39) C dX6_isPeaceful_18 (by decide) (fun q18 => ?_) (fun q18 => ?_)
        · skip
          refine am_iincN (pc := 39) (ls' := [(0, .ref 314), (1, .int set), (2, .int (nI (i2 + 1)))]) C dX6_isPeaceful_39 rfl (am_up1 _) (by decide) rfl ?_
          refine am_goto (pc := 42) (tgt := 2) C dX6_isPeaceful_42 (by decide) ?_
          exact ih2 (i2 + 1) (by omega) (by rw [rf_pe, hpe, q18]; rfl)
        · skip
          refine am_aload_n (pc := 21) C dX6_isPeaceful_21 rfl ?_
          refine am_getR (pc := 22) (j := 4) C dX6_isPeaceful_22 f6_21 bn_314 sh_314 (rf_314_1 hR) ?_
          refine am_getR (pc := 25) (j := 9) C dX6_isPeaceful_25 f6_145 bn_4 sh_4 (rf_4_8 hR) ?_
          refine am_iload_n (pc := 28) C dX6_isPeaceful_28 rfl ?_
          refine am_callSNi (Y := mX11_pick) (pc := 29) (st := []) (As := [.ref 9, .int (nI i2)]) (x := ((h 9) i2)) (h2 := h) C dX6_isPeaceful_29 k6_40 v_X11_pick rfl rfl (by decide) (Nat.zero_le _) (Nat.zero_le _) (Nat.le_of_ble_eq_true rfl) (c_X11_pick 9 i2 16 bn_9 sh_9 (show i2 < 16 from by omega) (by decide)) ?_
          refine am_top (show ((h 9) i2) = (rf_mem w i2 2) from (hLo.2.1 i2 (by omega)).2.2.2.2) ?_
          refine am_iload_n (pc := 32) C dX6_isPeaceful_32 rfl ?_
          refine am_iand (pc := 33) C dX6_isPeaceful_33 ?_
          refine am_if_eq (pc := 34) (tgt := 39) C dX6_isPeaceful_34 (by decide) (fun q32 => ?_) (fun q32 => ?_)
          · skip
            refine am_iincN (pc := 39) (ls' := [(0, .ref 314), (1, .int set), (2, .int (nI (i2 + 1)))]) C dX6_isPeaceful_39 rfl (am_up1 _) (by decide) rfl ?_
            refine am_goto (pc := 42) (tgt := 2) C dX6_isPeaceful_42 (by decide) ?_
            exact ih2 (i2 + 1) (by omega) (by rw [rf_pe, hpe, q18, decide_eq_true q32]; rfl)
          · skip
            refine am_iconstN (pc := 37) (k := 0) C dX6_isPeaceful_37 ?_
            exact am_iretb T dX6_isPeaceful_38 rfl (Nat.le_refl _) (Nat.le_refl _) (by rw [rf_peace, rf_pe_f (n := rf_M w) (i := i2) hl2 (by rw [rf_pe, hpe, q18, decide_eq_false q32]; rfl)]; rfl) rfl rfl
  exact L2 (rf_M w) 0 (by omega) rfl

