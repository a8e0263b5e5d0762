/-! THE CLASS: a hit, a step on the way, a book read aloud -/
section M22
theorem rf_add_sub (a b : Int32) : a + b - a = b := by rw [Int32.add_comm, Int32.add_sub_cancel]
/-- only learning has changed it -/
def rf_El (w w' : rf_W) : Prop := (∀ a, (a < 8 ∨ (9 ≤ a ∧ a < 61) ∨ 291 ≤ a) → w' a = w a) ∧ ∀ s k, s < 10 → (k < 9 ∨ k = 22) → rf_of w' s k = rf_of w s k
theorem rf_El.rf {w : rf_W} : rf_El w w := ⟨fun _ _ => rfl, fun _ _ _ _ => rfl⟩
theorem rf_El.tr {w1 w2 w3 : rf_W} (h : rf_El w1 w2) (g : rf_El w2 w3) : rf_El w1 w3 := ⟨fun a ha => (g.1 a ha).trans (h.1 a ha), fun s k a b => (g.2 s k a b).trans (h.2 s k a b)⟩
theorem rf_El.es {w w' : rf_W} (h : rf_El w w') : rf_Es w w' := ⟨fun a ha => h.1 a (by omega), fun s k a b => h.2 s k a (by omega)⟩
theorem rf_El.pl {w w' : rf_W} (h : rf_El w w') (hI : rf_I w) {s : Nat} (hs : s < rf_S w) : rf_pl w' s = rf_pl w s := by
  have hS : rf_S w < 11 := hI.1.2.1.2
  have h7 : rf_ofn w s 2 < 7 := (hI.2.1 s hs).2.1.2
  have h1n : rf_ofn w s 1 < rf_ofn w s 2 := (hI.2.1 s hs).2.2.1.2
  rw [rf_pl, rf_pl, rf_ofn, h.2 s 1 (by omega) (by omega)]
  exact h.2 s _ (by omega) (Or.inl (by show 3 + rf_ofn w s 1 < 9; omega))
theorem rf_El_learn {w : rf_W} {s m : Nat} (hs : s < 10) : rf_El w (rf_learn w s m) := by
  rw [rf_learn]
  cases hc : rf_can w s m with
  | false => exact rf_El.rf
  | true =>
    have hc2 := hc
    simp only [rf_can, Bool.and_eq_true, decide_eq_true_eq, Bool.not_eq_true'] at hc2
    have hk := hc2.2.1
    refine ⟨fun a ha => ?_, fun t k ht hk' => ?_⟩
    · show upd (rf_app w s m) 8 _ a = w a
      rw [rf_upd_ne (by omega), rf_app, rf_upd_ne (by omega), rf_upd_ne (by omega)]
    · show upd (rf_app w s m) 8 _ (61 + 23 * t + k) = _
      rw [rf_upd_ne (by omega), rf_app, rf_upd_ne (by omega), rf_upd_ne (by omega)]; rfl
theorem rf_learn_8 {w : rf_W} {s m : Nat} : rf_learn w s m 8 = w 8 + nI (if rf_can w s m = true then 1 else 0) := by
  rw [rf_learn]
  cases hc : rf_can w s m with
  | false => show w 8 = w 8 + nI 0; exact (Int32.add_zero _).symm
  | true =>
    show upd (rf_app w s m) 8 (rf_app w s m 8 + nI 1) 8 = w 8 + nI 1
    rw [rf_upd_eq, rf_app, rf_upd_ne (by omega), rf_upd_ne (by omega)]
theorem rf_rd1_el {w : rf_W} {all : Int32} {s o : Nat} {x : rf_W × Nat} (hI : rf_I x.1) (ho : o < rf_S x.1) : ∀ n, n ≤ rf_M x.1 → rf_I (rf_rd1 all s o n x).1 ∧ rf_El x.1 (rf_rd1 all s o n x).1 ∧ ∀ v, x.1 8 = v + nI x.2 → (rf_rd1 all s o n x).1 8 = v + nI (rf_rd1 all s o n x).2
  | 0, _ => ⟨hI, rf_El.rf, fun v hv => hv⟩
  | n + 1, hn => by
    obtain ⟨i1, i2, i3⟩ := rf_rd1_el (w := w) (all := all) (s := s) hI ho n (by omega)
    have hS : rf_S x.1 < 11 := hI.1.2.1.2
    have ho2 : o < rf_S (rf_rd1 all s o n x).1 := by rw [i2.es.S]; exact ho
    rw [rf_rd1]
    split
    · refine ⟨rf_I_learn i1 ho2 (by rw [i2.es.M]; omega), i2.tr (rf_El_learn (by omega)), fun v hv => ?_⟩
      show rf_learn _ o n 8 = v + nI (_ + _)
      rw [rf_learn_8, i3 v hv, ← nI_add, Int32.add_assoc]
    · exact ⟨i1, i2, i3⟩
theorem rf_rd2_el {w : rf_W} {s : Nat} (hI : rf_I w) : ∀ o, o ≤ rf_S w → rf_I (rf_rd2 (rf_sideIn w (rf_of w s 0) (rf_pl w s)) s (rf_M w) o (w, 0)).1 ∧ rf_El w (rf_rd2 (rf_sideIn w (rf_of w s 0) (rf_pl w s)) s (rf_M w) o (w, 0)).1 ∧ (rf_rd2 (rf_sideIn w (rf_of w s 0) (rf_pl w s)) s (rf_M w) o (w, 0)).1 8 = w 8 + nI (rf_rd2 (rf_sideIn w (rf_of w s 0) (rf_pl w s)) s (rf_M w) o (w, 0)).2
  | 0, _ => ⟨hI, rf_El.rf, (Int32.add_zero _).symm⟩
  | o + 1, ho => by
    obtain ⟨i1, i2, i3⟩ := rf_rd2_el (s := s) hI o (by omega)
    rw [rf_rd2]
    obtain ⟨j1, j2, j3⟩ := rf_rd1_el (w := w) (all := rf_sideIn w (rf_of w s 0) (rf_pl w s)) (s := s) (o := o) i1 (by rw [i2.es.S]; omega) (rf_M w) (by rw [i2.es.M]; exact Nat.le_refl _)
    exact ⟨j1, i2.tr j2, j3 _ i3⟩
theorem rf_la_0 {w : rf_W} {s : Nat} {set : Int32} (h : set = 0) : ∀ {m : Nat}, rf_la w s set m = w := by
  intro m
  induction m with
  | zero => rfl
  | succ m ih => rw [rf_la_n (fun z => by rw [h, am_bt_0] at z; exact Bool.false_ne_true z.1), ih]
/-- what is known stays known while one learns -/
theorem rf_known_learn {w : rf_W} {s m j : Nat} (hI : rf_I w) (hs : s < rf_S w) (hm : m < rf_M w) (hj : j < 32) (h : am_bt (rf_known w s) j = true) : am_bt (rf_known (rf_learn w s m) s) j = true := by
  have hM : rf_M w < 17 := hI.1.1.2
  have hS : rf_S w < 11 := hI.1.2.1.2
  have E := rf_El_learn (w := w) (s := s) (m := m) (show s < 10 by omega)
  have I' := rf_I_learn hI hs hm
  obtain ⟨k, hk, hkj⟩ := (rf_known_bt (hI.2.1 s hs) hM hj).mp h
  refine (rf_known_bt (I'.2.1 s (by rw [E.es.S]; exact hs)) (by rw [E.es.M]; exact hM) hj).mpr ⟨k, ?_⟩
  have hk13 : rf_kn w s < 13 := (hI.2.1 s hs).2.2.2.2.1.2
  rw [rf_learn]
  cases hc : rf_can w s m with
  | false => exact ⟨hk, hkj⟩
  | true =>
    have hc2 := hc
    simp only [rf_can, Bool.and_eq_true, decide_eq_true_eq, Bool.not_eq_true'] at hc2
    have hk12 := hc2.2.1
    show k < rf_kn (upd (rf_app w s m) 8 _) s ∧ rf_li (upd (rf_app w s m) 8 _) s k = j
    rw [rf_kn, rf_ofn, rf_of_upd (by omega), rf_li, rf_ofn, rf_of_upd (by omega), rf_app, rf_of, rf_upd_eq, rf_nat_nI (by omega), rf_of, rf_upd_ne (by omega), rf_upd_ne (by omega)]
    exact ⟨by omega, hkj⟩
theorem rf_la_known {w : rf_W} {s j : Nat} {set : Int32} (hI : rf_I w) (hs : s < rf_S w) (hj : j < 32) (h : am_bt (rf_known w s) j = true) : ∀ m, m ≤ rf_M w → am_bt (rf_known (rf_la w s set m) s) j = true
  | 0, _ => h
  | m + 1, hm => by
    have ih := rf_la_known (set := set) hI hs hj h m (by omega)
    obtain ⟨a, b⟩ := rf_la_ok (set := set) hI hs m (by omega)
    rw [rf_la]
    split
    · exact rf_known_learn a (by rw [b.S]; exact hs) (by rw [b.M]; omega) hj ih
    · exact ih
theorem rf_la_el {w : rf_W} {s : Nat} {set : Int32} (hs : s < 10) : ∀ m, rf_El w (rf_la w s set m)
  | 0 => rf_El.rf
  | m + 1 => by
    have ih := rf_la_el (w := w) (set := set) hs m
    rw [rf_la]
    split
    · exact ih.tr (rf_El_learn hs)
    · exact ih
theorem rf_rd1_la {w : rf_W} {all : Int32} {s o n9 : Nat} (hI : rf_I w) (hs : s < rf_S w) (ho : o < rf_S w) (ha : am_bt all o = true) : ∀ m, m ≤ rf_M w → (rf_rd1 all s o m (w, n9)).1 = rf_la w o (rf_of w s 22 &&& (rf_known w o ^^^ (-1))) m
  | 0, _ => rfl
  | m + 1, hm => by
    have ih := rf_rd1_la (n9 := n9) hI hs ho ha m (by omega)
    have hM : rf_M w < 17 := hI.1.1.2
    have hS : rf_S w < 11 := hI.1.2.1.2
    have El := rf_la_el (w := w) (s := o) (set := rf_of w s 22 &&& (rf_known w o ^^^ (-1))) (show o < 10 by omega) m
    rw [rf_rd1, ih, El.2 s 22 (by omega) (by omega), rf_la]
    have hb : am_bt (rf_of w s 22 &&& (rf_known w o ^^^ (-1))) m = (am_bt (rf_of w s 22) m && !am_bt (rf_known w o) m) := by rw [am_bt_and, am_bt_not (by omega)]
    by_cases h1 : am_bt (rf_of w s 22) m = true
    · rw [if_pos ⟨ha, h1⟩]
      show rf_learn (rf_la w o (rf_of w s 22 &&& (rf_known w o ^^^ (-1))) m) o m = _
      cases hc : rf_can (rf_la w o (rf_of w s 22 &&& (rf_known w o ^^^ (-1))) m) o m with
      | false =>
        rw [if_neg (fun z => Bool.false_ne_true z.2), rf_learn, hc]; rfl
      | true =>
        have hk : am_bt (rf_known w o) m = false := by
          cases hkn : am_bt (rf_known w o) m with
          | false => rfl
          | true =>
            have := rf_la_known (set := rf_of w s 22 &&& (rf_known w o ^^^ (-1))) hI ho (show m < 32 by omega) hkn m (by omega)
            rw [rf_can_f1 this] at hc
            exact absurd hc Bool.false_ne_true
        rw [if_pos ⟨by rw [hb, h1, hk]; rfl, rfl⟩]
    · rw [if_neg (fun z => h1 z.2), if_neg (fun z => by rw [hb] at z; exact h1 (Bool.and_eq_true _ _ |>.mp z.1).1)]
      exact ih
theorem rf_rd_step {w : rf_W} {s o : Nat} (hI : rf_I w) (hs : s < rf_S w) (ho : o < rf_S w) :
    (rf_rd2 (rf_sideIn w (rf_of w s 0) (rf_pl w s)) s (rf_M w) (o + 1) (w, 0)).1 = (if rf_of (rf_rd2 (rf_sideIn w (rf_of w s 0) (rf_pl w s)) s (rf_M w) o (w, 0)).1 s 0 = rf_of (rf_rd2 (rf_sideIn w (rf_of w s 0) (rf_pl w s)) s (rf_M w) o (w, 0)).1 o 0 ∧ rf_pl (rf_rd2 (rf_sideIn w (rf_of w s 0) (rf_pl w s)) s (rf_M w) o (w, 0)).1 s = rf_pl (rf_rd2 (rf_sideIn w (rf_of w s 0) (rf_pl w s)) s (rf_M w) o (w, 0)).1 o
      then rf_la (rf_rd2 (rf_sideIn w (rf_of w s 0) (rf_pl w s)) s (rf_M w) o (w, 0)).1 o (rf_of w s 22 &&& (rf_known (rf_rd2 (rf_sideIn w (rf_of w s 0) (rf_pl w s)) s (rf_M w) o (w, 0)).1 o ^^^ (-1))) (rf_M w) else (rf_rd2 (rf_sideIn w (rf_of w s 0) (rf_pl w s)) s (rf_M w) o (w, 0)).1) := by
  have hS : rf_S w < 11 := hI.1.2.1.2
  obtain ⟨i1, i2, -⟩ := rf_rd2_el (s := s) hI o (by omega)
  have hall : am_bt (rf_sideIn w (rf_of w s 0) (rf_pl w s)) o = (decide (rf_of w o 0 = rf_of w s 0) && decide (rf_pl w o = rf_pl w s)) := by
    rw [rf_sideIn, rf_set_bt (by omega) _ (by omega), decide_eq_true ho, Bool.true_and]
  rw [rf_rd2]
  have e22 := i2.2 s 22 (by omega) (by omega)
  have e0s := i2.2 s 0 (by omega) (by omega)
  have e0o := i2.2 o 0 (by omega) (by omega)
  have eps := i2.pl hI hs
  have epo := i2.pl hI ho
  have eM := i2.es.M
  have eS := i2.es.S
  generalize hall9 : rf_sideIn w (rf_of w s 0) (rf_pl w s) = all at hall i1 i2 e22 e0s e0o eps epo eM eS ⊢
  generalize rf_rd2 all s (rf_M w) o (w, 0) = x at i1 i2 e22 e0s e0o eps epo eM eS ⊢
  obtain ⟨x1, x2⟩ := x
  show (rf_rd1 all s o (rf_M w) (x1, x2)).1 = if rf_of x1 s 0 = rf_of x1 o 0 ∧ rf_pl x1 s = rf_pl x1 o then rf_la x1 o (rf_of w s 22 &&& (rf_known x1 o ^^^ (-1))) (rf_M w) else x1
  by_cases hc : rf_of x1 s 0 = rf_of x1 o 0 ∧ rf_pl x1 s = rf_pl x1 o
  · rw [if_pos hc]
    have ha : am_bt all o = true := by
      rw [hall, decide_eq_true (by rw [← e0o, ← e0s]; exact hc.1.symm), decide_eq_true (by rw [← epo, ← eps]; exact hc.2.symm)]; rfl
    rw [rf_rd1_la (n9 := x2) i1 (by rw [eS]; exact hs) (by rw [eS]; exact ho) ha (rf_M w) (by rw [eM]; exact Nat.le_refl _)]
    rw [show rf_of x1 s 22 = rf_of w s 22 from e22]
  · rw [if_neg hc]
    have ha : am_bt all o = false := by
      rw [hall, Bool.and_eq_false_iff, decide_eq_false_iff_not, decide_eq_false_iff_not]
      by_cases h1 : rf_of w o 0 = rf_of w s 0
      · refine Or.inr (fun z => hc ⟨by rw [show rf_of x1 s 0 = rf_of w s 0 from e0s, show rf_of x1 o 0 = rf_of w o 0 from e0o]; exact h1.symm, by rw [show rf_pl x1 s = rf_pl w s from eps, show rf_pl x1 o = rf_pl w o from epo]; exact z.symm⟩)
      · exact Or.inl h1
    have key : ∀ m, (rf_rd1 all s o m (x1, x2)).1 = x1 := by
      intro m
      induction m with
      | zero => rfl
      | succ m ih => rw [rf_rd1, if_neg (fun z => by rw [ha] at z; exact Bool.false_ne_true z.1)]; exact ih
    exact key _
end M22

set_option maxHeartbeats 400000 in
set_option maxRecDepth 100000 in
theorem c_X10_hit {ad : Nat → Nat} {r : am_R} (hR : am_rs r) {h : am_H} (b : Nat) (s : Nat) (good : Bool) (w : rf_W) (hV : rf_I w) (hLo : cl_Lo (h) 4 w) (hSc : cl_Sc (h) 25 w) (hb : b < rf_S w) (hs : s < rf_S w) (hk0 : 0 < rf_kn w s) (hB : rf_n (w 7) 2147483647)  : am_CM mX10_hit 4 0 0 [.ref 3, .int (nI b), .int (nI s), .int (am_b good)] (am_VV ad) r h (am_pr (some (.int (nI (rf_takes w s good - 1)))) r (fun c9 => cl_Sc c9 25 (rf_hit w b s good) ∧ cl_fr (h) c9 25 15)) := by
  refine am_CM.of (by decide +kernel) (Nat.le_of_ble_eq_true rfl) (fun X C T => ?_)
  show am_G X (am_VV ad) (0, 0) 0 [(0, .ref 3), (1, .int (nI b)), (2, .int (nI s)), (3, .int (am_b good))] [] r h
  have hM9 : rf_M w < 17 := hV.1.1.2
  have hS9 : rf_S w < 11 := hV.1.2.1.2
  have hO9 : rf_O w < 11 := hV.1.2.2.2
  have hIs := hV.2.1 s hs
  have hk13 : rf_kn w s < 13 := hIs.2.2.2.2.1.2
  obtain ⟨ht0, htM, htq⟩ := rf_takes_ok (g := good) hV hs hk0
  obtain ⟨hp1, hp2, -⟩ := rf_pos_spec htq
  have hPm : rf_li w s (rf_pos w s (rf_takes w s good - 1)) = rf_takes w s good - 1 := by rw [rf_li, rf_ofn, hp2, rf_nat_nI (by omega)]
  refine am_iload_n (pc := 0) C dX10_hit_0 rfl ?_
  refine am_if_eqB (pc := 1) (tgt := 12) C dX10_hit_1 (by decide) (fun q1 => ?_) (fun q1 => ?_)
  · skip
    refine am_aload_n (pc := 12) C dX10_hit_12 rfl ?_
    refine am_getR (pc := 13) (j := 25) C dX10_hit_13 f10_22 bn_3 sh_3 (rf_3_2 hR) ?_
    refine am_iload_n (pc := 16) C dX10_hit_16 rfl ?_
    refine am_aload_n (pc := 17) C dX10_hit_17 rfl ?_
    refine am_getR (pc := 18) (j := 25) C dX10_hit_18 f10_22 bn_3 sh_3 (rf_3_2 hR) ?_
    refine am_getR (pc := 21) (j := 28) C dX10_hit_21 f10_58 bn_25 sh_25 (rf_25_7 hR) ?_
    refine am_iload_n (pc := 24) C dX10_hit_24 rfl ?_
    refine am_callSNi (Y := mX11_pick) (pc := 25) (st := [.int (nI s), .ref 25]) (As := [.ref 28, .int (nI s)]) (x := ((h 28) s)) (h2 := h) C dX10_hit_25 k10_54 v_X11_pick rfl rfl (by decide) (Nat.zero_le _) (Nat.zero_le _) (Nat.le_of_ble_eq_true rfl) (c_X11_pick 28 s 10 bn_28 sh_28 (show s < 10 from by omega) (by decide)) ?_
    refine am_top (show ((h 28) s) = (nI (rf_kn w s)) from ((hSc.2.1 s (by omega)).2.2.1.trans (hV.2.1 s (by omega)).2.2.2.2.1.1)) ?_
    refine am_iconstN (pc := 28) (k := 1) C dX10_hit_28 ?_
    refine am_isubN (pc := 29) C dX10_hit_29 (by omega) ?_
    refine am_callVi (Y := mX5_knownAt) (pc := 30) (st := []) (As := [.int (nI s), .int (nI ((rf_kn w s) - 1))]) (x := (nI (rf_li w s ((rf_kn w s) - 1)))) (h2 := h) C dX10_hit_30 k10_115 v_X5_knownAt rfl rfl bn_25 sh_25 ⟨by decide, rfl⟩ (by decide) (Nat.zero_le _) (Nat.zero_le _) (Nat.le_of_ble_eq_true rfl) (c_X5_knownAt hR s ((rf_kn w s) - 1) w hV hSc hs (show ((rf_kn w s) - 1) < rf_kn w s from (by omega))) ?_
    refine am_top (show (nI (rf_li w s ((rf_kn w s) - 1))) = (am_oi (rf_takes w s good)) from (by rw [rf_takes, q1]; exact (am_oi_s _).symm)) ?_
    refine am_istore (pc := 33) (ls' := [(0, .ref 3), (1, .int (nI b)), (2, .int (nI s)), (3, .int (am_b good)), (4, .int (am_oi (rf_takes w s good)))]) C dX10_hit_33 (by decide) rfl ?_
    refine am_iload (pc := 35) C dX10_hit_35 rfl ?_
    refine am_iconst (pc := 37) (v := -1) C dX10_hit_37 rfl ?_
    refine am_icmp_neO (pc := 38) (tgt := 43) C dX10_hit_38 (by decide) (by omega) (fun q38 => ?_) (fun q38 => ?_)
    · skip
      refine am_lsv (ls' := [(0, .ref 3), (1, .int (nI b)), (2, .int (nI s)), (3, .int (am_b good)), (4, .int (nI (rf_takes w s good - 1)))]) (congrArg (fun z9 : Int32 => ([(0, .ref 3), (1, .int (nI b)), (2, .int (nI s)), (3, .int (am_b good)), (4, Value.int z9)] : List (Nat × Value))) (show (am_oi (rf_takes w s good)) = (nI (rf_takes w s good - 1)) from (am_oi_p ht0))) ?_
      refine am_aload_n (pc := 43) C dX10_hit_43 rfl ?_
      refine am_getR (pc := 44) (j := 25) C dX10_hit_44 f10_22 bn_3 sh_3 (rf_3_2 hR) ?_
      refine am_iload_n (pc := 47) C dX10_hit_47 rfl ?_
      refine am_iload (pc := 48) C dX10_hit_48 rfl ?_
      refine am_callVv (Y := mX5_forget) (pc := 50) (st := []) (As := [.int (nI s), .int (nI (rf_takes w s good - 1))]) (h2 := (am_row (am_row (am_row h 31 ((cl_fg (h 31) w s (rf_takes w s good - 1) (rf_kn w s)).1)) 28 (upd (h 28) s (nI (rf_kn w s - 1)))) 29 (upd (h 29) s (rf_known w s &&& ((nI 1 <<< (nI (rf_takes w s good - 1) &&& 31)) ^^^ (-1)))))) C dX10_hit_50 k10_118 v_X5_forget rfl rfl bn_25 sh_25 ⟨by decide, rfl⟩ (by decide) (Nat.zero_le _) (Nat.zero_le _) (Nat.le_of_ble_eq_true rfl) (c_X5_forget hR s (rf_takes w s good - 1) w hV hSc hs (show (rf_takes w s good - 1) < 32 from by omega) (show rf_pos w s (rf_takes w s good - 1) < rf_kn w s from by omega) (show rf_li w s (rf_pos w s (rf_takes w s good - 1)) = (rf_takes w s good - 1) from by omega)) ?_
      refine am_aload_n (pc := 53) C dX10_hit_53 rfl ?_
      refine am_getR (pc := 54) (j := 25) C dX10_hit_54 f10_22 bn_3 sh_3 (rf_3_2 hR) ?_
      refine am_getR (pc := 57) (j := 30) C dX10_hit_57 f10_64 bn_25 sh_25 (rf_25_9 hR) ?_
      refine am_iload_n (pc := 60) C dX10_hit_60 rfl ?_
      refine am_aload_n (pc := 61) C dX10_hit_61 rfl ?_
      refine am_getR (pc := 62) (j := 4) C dX10_hit_62 f10_9 bn_3 sh_3 (rf_3_0 hR) ?_
      refine am_aload_n (pc := 65) C dX10_hit_65 rfl ?_
      refine am_getR (pc := 66) (j := 25) C dX10_hit_66 f10_22 bn_3 sh_3 (rf_3_2 hR) ?_
      refine am_getR (pc := 69) (j := 29) C dX10_hit_69 f10_61 bn_25 sh_25 (rf_25_8 hR) ?_
      refine am_iload_n (pc := 72) C dX10_hit_72 rfl ?_
      refine am_callSNi (Y := mX11_pick) (pc := 73) (st := [.ref 4, .int (nI s), .ref 30]) (As := [.ref 29, .int (nI s)]) (x := ((upd (h 29) s (rf_known w s &&& ((nI 1 <<< (nI (rf_takes w s good - 1) &&& 31)) ^^^ (-1)))) s)) (h2 := (am_row (am_row (am_row h 31 ((cl_fg (h 31) w s (rf_takes w s good - 1) (rf_kn w s)).1)) 28 (upd (h 28) s (nI (rf_kn w s - 1)))) 29 (upd (h 29) s (rf_known w s &&& ((nI 1 <<< (nI (rf_takes w s good - 1) &&& 31)) ^^^ (-1)))))) C dX10_hit_73 k10_54 v_X11_pick rfl rfl (by decide) (Nat.zero_le _) (Nat.zero_le _) (Nat.le_of_ble_eq_true rfl) (c_X11_pick 29 s 10 bn_29 sh_29 (show s < 10 from by omega) (by decide)) ?_
      refine am_top (show ((upd (h 29) s (rf_known w s &&& ((nI 1 <<< (nI (rf_takes w s good - 1) &&& 31)) ^^^ (-1)))) s) = (rf_known w s &&& ((nI 1 <<< (nI (rf_takes w s good - 1) &&& 31)) ^^^ (-1))) from rf_upd_eq) ?_
      refine am_callVi (Y := mX3_usableOf) (pc := 76) (st := [.int (nI s), .ref 30]) (As := [.int (rf_known w s &&& ((nI 1 <<< (nI (rf_takes w s good - 1) &&& 31)) ^^^ (-1)))]) (x := (rf_usable w (rf_known w s &&& ((nI 1 <<< (nI (rf_takes w s good - 1) &&& 31)) ^^^ (-1))))) (h2 := (am_row (am_row (am_row h 31 ((cl_fg (h 31) w s (rf_takes w s good - 1) (rf_kn w s)).1)) 28 (upd (h 28) s (nI (rf_kn w s - 1)))) 29 (upd (h 29) s (rf_known w s &&& ((nI 1 <<< (nI (rf_takes w s good - 1) &&& 31)) ^^^ (-1)))))) C dX10_hit_76 k10_75 v_X3_usableOf rfl rfl bn_4 sh_4 ⟨by decide, rfl⟩ (by decide) (Nat.zero_le _) (Nat.zero_le _) (Nat.le_of_ble_eq_true rfl) (c_X3_usableOf hR (rf_known w s &&& ((nI 1 <<< (nI (rf_takes w s good - 1) &&& 31)) ^^^ (-1))) w hV (cl_Lo_eq (fun i9 h9 g9 => by rw [am_row_ne _ _ _ (by omega), am_row_ne _ _ _ (by omega), am_row_ne _ _ _ (by omega)]) hLo)) ?_
      refine am_callSNv (Y := mX11_put) (pc := 79) (st := []) (As := [.ref 30, .int (nI s), .int (rf_usable w (rf_known w s &&& ((nI 1 <<< (nI (rf_takes w s good - 1) &&& 31)) ^^^ (-1))))]) (h2 := (am_row (am_row (am_row (am_row h 31 ((cl_fg (h 31) w s (rf_takes w s good - 1) (rf_kn w s)).1)) 28 (upd (h 28) s (nI (rf_kn w s - 1)))) 29 (upd (h 29) s (rf_known w s &&& ((nI 1 <<< (nI (rf_takes w s good - 1) &&& 31)) ^^^ (-1))))) 30 (upd (h 30) s (rf_usable w (rf_known w s &&& ((nI 1 <<< (nI (rf_takes w s good - 1) &&& 31)) ^^^ (-1))))))) C dX10_hit_79 k10_44 v_X11_put rfl rfl (by decide) (Nat.zero_le _) (Nat.zero_le _) (Nat.le_of_ble_eq_true rfl) (c_X11_put 30 s (rf_usable w (rf_known w s &&& ((nI 1 <<< (nI (rf_takes w s good - 1) &&& 31)) ^^^ (-1)))) 10 bn_30 sh_30 (show s < 10 from by omega) (by decide)) ?_
      have hS1 := cl_Sc_lose hV hs htM htq hSc (h' := (am_row (am_row (am_row (am_row h 31 ((cl_fg (h 31) w s (rf_takes w s good - 1) (rf_kn w s)).1)) 28 (upd (h 28) s (nI (rf_kn w s - 1)))) 29 (upd (h 29) s (rf_known w s &&& ((nI 1 <<< (nI (rf_takes w s good - 1) &&& 31)) ^^^ (-1))))) 30 (upd (h 30) s (rf_usable w (rf_known w s &&& ((nI 1 <<< (nI (rf_takes w s good - 1) &&& 31)) ^^^ (-1))))))) rfl rfl rfl rfl rfl rfl rfl (fun i h7 g7 => by rw [am_row_ne _ _ _ (by omega), am_row_ne _ _ _ (by omega), am_row_ne _ _ _ (by omega), am_row_ne _ _ _ (by omega)])
      have hFA : cl_fr h ((am_row (am_row (am_row (am_row h 31 ((cl_fg (h 31) w s (rf_takes w s good - 1) (rf_kn w s)).1)) 28 (upd (h 28) s (nI (rf_kn w s - 1)))) 29 (upd (h 29) s (rf_known w s &&& ((nI 1 <<< (nI (rf_takes w s good - 1) &&& 31)) ^^^ (-1))))) 30 (upd (h 30) s (rf_usable w (rf_known w s &&& ((nI 1 <<< (nI (rf_takes w s good - 1) &&& 31)) ^^^ (-1))))))) 25 15 := (fun i9 h9 => by rw [am_row_ne _ _ _ (by omega), am_row_ne _ _ _ (by omega), am_row_ne _ _ _ (by omega), am_row_ne _ _ _ (by omega)])
      obtain ⟨gA, hzgA⟩ : ∃ z : am_H, z = (am_row (am_row (am_row (am_row h 31 ((cl_fg (h 31) w s (rf_takes w s good - 1) (rf_kn w s)).1)) 28 (upd (h 28) s (nI (rf_kn w s - 1)))) 29 (upd (h 29) s (rf_known w s &&& ((nI 1 <<< (nI (rf_takes w s good - 1) &&& 31)) ^^^ (-1))))) 30 (upd (h 30) s (rf_usable w (rf_known w s &&& ((nI 1 <<< (nI (rf_takes w s good - 1) &&& 31)) ^^^ (-1)))))) := ⟨_, rfl⟩
      rw [← hzgA] at hS1 hFA
      have hSA := hS1.1
      have hEA := hS1.2
      have hVA := rf_I_lose hV hs hp1
      have LA := cl_Lo_Es hV hEA (cl_Lo_eq (fun i h1 h2 => hFA i (by omega)) hLo)
      have hSe := hEA.S
      have hMe := hEA.M
      have hplA := hVA.2.1 s (by omega)
      have hB2 : rf_n ((rf_lie (rf_lose w s (rf_takes w s good - 1)) (nI (rf_takes w s good - 1)) (rf_pl (rf_lose w s (rf_takes w s good - 1)) s) (nI s)) 7) 2147483647 := by rw [rf_lie_out (by omega) (by omega) hVA.2.2.2.2.1.2.2.1.2, rf_lose_out hp1 hk13 (by omega)]; exact hB
      refine am_hp (show (am_row (am_row (am_row (am_row h 31 ((cl_fg (h 31) w s (rf_takes w s good - 1) (rf_kn w s)).1)) 28 (upd (h 28) s (nI (rf_kn w s - 1)))) 29 (upd (h 29) s (rf_known w s &&& ((nI 1 <<< (nI (rf_takes w s good - 1) &&& 31)) ^^^ (-1))))) 30 (upd (h 30) s (rf_usable w (rf_known w s &&& ((nI 1 <<< (nI (rf_takes w s good - 1) &&& 31)) ^^^ (-1)))))) = gA from hzgA.symm) ?_
      refine am_aload_n (pc := 82) C dX10_hit_82 rfl ?_
      refine am_getR (pc := 83) (j := 25) C dX10_hit_83 f10_22 bn_3 sh_3 (rf_3_2 hR) ?_
      refine am_iload (pc := 86) C dX10_hit_86 rfl ?_
      refine am_aload_n (pc := 88) C dX10_hit_88 rfl ?_
      refine am_getR (pc := 89) (j := 25) C dX10_hit_89 f10_22 bn_3 sh_3 (rf_3_2 hR) ?_
      refine am_getR (pc := 92) (j := 27) C dX10_hit_92 f10_48 bn_25 sh_25 (rf_25_6 hR) ?_
      refine am_iload_n (pc := 95) C dX10_hit_95 rfl ?_
      refine am_callSNi (Y := mX11_pick) (pc := 96) (st := [.int (nI (rf_takes w s good - 1)), .ref 25]) (As := [.ref 27, .int (nI s)]) (x := ((gA 27) s)) (h2 := gA) C dX10_hit_96 k10_54 v_X11_pick rfl rfl (by decide) (Nat.zero_le _) (Nat.zero_le _) (Nat.le_of_ble_eq_true rfl) (c_X11_pick 27 s 10 bn_27 sh_27 (show s < 10 from by omega) (by decide)) ?_
      refine am_top (show ((gA 27) s) = (rf_pl (rf_lose w s (rf_takes w s good - 1)) s) from (hSA.2.1 s (by omega)).2.1) ?_
      refine am_iload_n (pc := 99) C dX10_hit_99 rfl ?_
      refine am_callVvr (Y := mX5_layDown) (pc := 100) (st := []) (As := [.int (nI (rf_takes w s good - 1)), .int (rf_pl (rf_lose w s (rf_takes w s good - 1)) s), .int (nI s)]) (PP := fun c9 => cl_Sc c9 25 (rf_lie (rf_lose w s (rf_takes w s good - 1)) (nI (rf_takes w s good - 1)) (rf_pl (rf_lose w s (rf_takes w s good - 1)) s) (nI s)) ∧ cl_fr (gA) c9 25 15) C dX10_hit_100 k10_121 v_X5_layDown rfl rfl bn_25 sh_25 ⟨by decide, rfl⟩ (by decide) (Nat.zero_le _) (Nat.zero_le _) (Nat.le_of_ble_eq_true rfl) (c_X5_layDown hR (nI (rf_takes w s good - 1)) (rf_pl (rf_lose w s (rf_takes w s good - 1)) s) (nI s) (rf_lose w s (rf_takes w s good - 1)) hVA hSA) (fun g100_1 hg100_1 => ?_)
      obtain ⟨S100, F100⟩ := hg100_1
      have V100 := rf_I_lie (m := nI (rf_takes w s good - 1)) (p := rf_pl (rf_lose w s (rf_takes w s good - 1)) s) (x := nI s) hVA (rf_n_mk (by omega) (by omega)) (hplA.2.2.2.1 _ hplA.2.2.1.2) (rf_n_mk (by omega) (by omega))
      refine am_aload_n (pc := 103) C dX10_hit_103 rfl ?_
      refine am_getR (pc := 104) (j := 25) C dX10_hit_104 f10_22 bn_3 sh_3 (rf_3_2 hR) ?_
      refine am_iload_n (pc := 107) C dX10_hit_107 rfl ?_
      refine am_iload_n (pc := 108) C dX10_hit_108 rfl ?_
      refine am_iload (pc := 109) C dX10_hit_109 rfl ?_
      refine am_iload_n (pc := 111) C dX10_hit_111 rfl ?_
      refine am_callVvr (Y := mX5_writeRow) (pc := 112) (st := []) (As := [.int (nI b), .int (nI s), .int (nI (rf_takes w s good - 1)), .int (am_b good)]) (PP := fun c9 => cl_Sc c9 25 (rf_logs (rf_lie (rf_lose w s (rf_takes w s good - 1)) (nI (rf_takes w s good - 1)) (rf_pl (rf_lose w s (rf_takes w s good - 1)) s) (nI s)) (nI b) (nI s) (nI (rf_takes w s good - 1)) good) ∧ cl_fr (g100_1) c9 25 15) C dX10_hit_112 k10_125 v_X5_writeRow rfl rfl bn_25 sh_25 ⟨by decide, rfl⟩ (by decide) (Nat.zero_le _) (Nat.zero_le _) (Nat.le_of_ble_eq_true rfl) (c_X5_writeRow hR (nI b) (nI s) (nI (rf_takes w s good - 1)) good (rf_lie (rf_lose w s (rf_takes w s good - 1)) (nI (rf_takes w s good - 1)) (rf_pl (rf_lose w s (rf_takes w s good - 1)) s) (nI s)) V100 S100 (show rf_n ((rf_lie (rf_lose w s (rf_takes w s good - 1)) (nI (rf_takes w s good - 1)) (rf_pl (rf_lose w s (rf_takes w s good - 1)) s) (nI s)) 7) 2147483647 from hB2)) (fun g112_2 hg112_2 => ?_)
      obtain ⟨S112, F112⟩ := hg112_2
      refine am_iload (pc := 115) C dX10_hit_115 rfl ?_
      exact am_iretir T dX10_hit_117 rfl (Nat.le_refl _) (Nat.le_refl _) rfl rfl ⟨S112, (fun i h9 => (F112 i h9).trans ((F100 i h9).trans (hFA i h9)))⟩
    · skip
      exact absurd q38 (by omega)
  · skip
    refine am_aload_n (pc := 4) C dX10_hit_4 rfl ?_
    refine am_iload_n (pc := 5) C dX10_hit_5 rfl ?_
    refine am_callVi (Y := mX10_dearestOf) (pc := 6) (st := []) (As := [.int (nI s)]) (x := (am_oi (rf_tk w (rf_known w s) (rf_M w)))) (h2 := h) C dX10_hit_6 k10_112 v_X10_dearestOf rfl rfl bn_3 sh_3 ⟨by decide, rfl⟩ (by decide) (Nat.zero_le _) (Nat.zero_le _) (Nat.le_of_ble_eq_true rfl) (c_X10_dearestOf hR s w hV hLo hSc hs) ?_
    refine am_goto (pc := 9) (tgt := 33) C dX10_hit_9 (by decide) ?_
    refine am_top (show (am_oi (rf_tk w (rf_known w s) (rf_M w))) = (am_oi (rf_takes w s good)) from (by rw [rf_takes, q1]; rfl)) ?_
    refine am_istore (pc := 33) (ls' := [(0, .ref 3), (1, .int (nI b)), (2, .int (nI s)), (3, .int (am_b good)), (4, .int (am_oi (rf_takes w s good)))]) C dX10_hit_33 (by decide) rfl ?_
    refine am_iload (pc := 35) C dX10_hit_35 rfl ?_
    refine am_iconst (pc := 37) (v := -1) C dX10_hit_37 rfl ?_
    refine am_icmp_neO (pc := 38) (tgt := 43) C dX10_hit_38 (by decide) (by omega) (fun q38 => ?_) (fun q38 => ?_)
    · skip
      refine am_lsv (ls' := [(0, .ref 3), (1, .int (nI b)), (2, .int (nI s)), (3, .int (am_b good)), (4, .int (nI (rf_takes w s good - 1)))]) (congrArg (fun z9 : Int32 => ([(0, .ref 3), (1, .int (nI b)), (2, .int (nI s)), (3, .int (am_b good)), (4, Value.int z9)] : List (Nat × Value))) (show (am_oi (rf_takes w s good)) = (nI (rf_takes w s good - 1)) from (am_oi_p ht0))) ?_
      refine am_aload_n (pc := 43) C dX10_hit_43 rfl ?_
      refine am_getR (pc := 44) (j := 25) C dX10_hit_44 f10_22 bn_3 sh_3 (rf_3_2 hR) ?_
      refine am_iload_n (pc := 47) C dX10_hit_47 rfl ?_
      refine am_iload (pc := 48) C dX10_hit_48 rfl ?_
      refine am_callVv (Y := mX5_forget) (pc := 50) (st := []) (As := [.int (nI s), .int (nI (rf_takes w s good - 1))]) (h2 := (am_row (am_row (am_row h 31 ((cl_fg (h 31) w s (rf_takes w s good - 1) (rf_kn w s)).1)) 28 (upd (h 28) s (nI (rf_kn w s - 1)))) 29 (upd (h 29) s (rf_known w s &&& ((nI 1 <<< (nI (rf_takes w s good - 1) &&& 31)) ^^^ (-1)))))) C dX10_hit_50 k10_118 v_X5_forget rfl rfl bn_25 sh_25 ⟨by decide, rfl⟩ (by decide) (Nat.zero_le _) (Nat.zero_le _) (Nat.le_of_ble_eq_true rfl) (c_X5_forget hR s (rf_takes w s good - 1) w hV hSc hs (show (rf_takes w s good - 1) < 32 from by omega) (show rf_pos w s (rf_takes w s good - 1) < rf_kn w s from by omega) (show rf_li w s (rf_pos w s (rf_takes w s good - 1)) = (rf_takes w s good - 1) from by omega)) ?_
      refine am_aload_n (pc := 53) C dX10_hit_53 rfl ?_
      refine am_getR (pc := 54) (j := 25) C dX10_hit_54 f10_22 bn_3 sh_3 (rf_3_2 hR) ?_
      refine am_getR (pc := 57) (j := 30) C dX10_hit_57 f10_64 bn_25 sh_25 (rf_25_9 hR) ?_
      refine am_iload_n (pc := 60) C dX10_hit_60 rfl ?_
      refine am_aload_n (pc := 61) C dX10_hit_61 rfl ?_
      refine am_getR (pc := 62) (j := 4) C dX10_hit_62 f10_9 bn_3 sh_3 (rf_3_0 hR) ?_
      refine am_aload_n (pc := 65) C dX10_hit_65 rfl ?_
      refine am_getR (pc := 66) (j := 25) C dX10_hit_66 f10_22 bn_3 sh_3 (rf_3_2 hR) ?_
      refine am_getR (pc := 69) (j := 29) C dX10_hit_69 f10_61 bn_25 sh_25 (rf_25_8 hR) ?_
      refine am_iload_n (pc := 72) C dX10_hit_72 rfl ?_
      refine am_callSNi (Y := mX11_pick) (pc := 73) (st := [.ref 4, .int (nI s), .ref 30]) (As := [.ref 29, .int (nI s)]) (x := ((upd (h 29) s (rf_known w s &&& ((nI 1 <<< (nI (rf_takes w s good - 1) &&& 31)) ^^^ (-1)))) s)) (h2 := (am_row (am_row (am_row h 31 ((cl_fg (h 31) w s (rf_takes w s good - 1) (rf_kn w s)).1)) 28 (upd (h 28) s (nI (rf_kn w s - 1)))) 29 (upd (h 29) s (rf_known w s &&& ((nI 1 <<< (nI (rf_takes w s good - 1) &&& 31)) ^^^ (-1)))))) C dX10_hit_73 k10_54 v_X11_pick rfl rfl (by decide) (Nat.zero_le _) (Nat.zero_le _) (Nat.le_of_ble_eq_true rfl) (c_X11_pick 29 s 10 bn_29 sh_29 (show s < 10 from by omega) (by decide)) ?_
      refine am_top (show ((upd (h 29) s (rf_known w s &&& ((nI 1 <<< (nI (rf_takes w s good - 1) &&& 31)) ^^^ (-1)))) s) = (rf_known w s &&& ((nI 1 <<< (nI (rf_takes w s good - 1) &&& 31)) ^^^ (-1))) from rf_upd_eq) ?_
      refine am_callVi (Y := mX3_usableOf) (pc := 76) (st := [.int (nI s), .ref 30]) (As := [.int (rf_known w s &&& ((nI 1 <<< (nI (rf_takes w s good - 1) &&& 31)) ^^^ (-1)))]) (x := (rf_usable w (rf_known w s &&& ((nI 1 <<< (nI (rf_takes w s good - 1) &&& 31)) ^^^ (-1))))) (h2 := (am_row (am_row (am_row h 31 ((cl_fg (h 31) w s (rf_takes w s good - 1) (rf_kn w s)).1)) 28 (upd (h 28) s (nI (rf_kn w s - 1)))) 29 (upd (h 29) s (rf_known w s &&& ((nI 1 <<< (nI (rf_takes w s good - 1) &&& 31)) ^^^ (-1)))))) C dX10_hit_76 k10_75 v_X3_usableOf rfl rfl bn_4 sh_4 ⟨by decide, rfl⟩ (by decide) (Nat.zero_le _) (Nat.zero_le _) (Nat.le_of_ble_eq_true rfl) (c_X3_usableOf hR (rf_known w s &&& ((nI 1 <<< (nI (rf_takes w s good - 1) &&& 31)) ^^^ (-1))) w hV (cl_Lo_eq (fun i9 h9 g9 => by rw [am_row_ne _ _ _ (by omega), am_row_ne _ _ _ (by omega), am_row_ne _ _ _ (by omega)]) hLo)) ?_
      refine am_callSNv (Y := mX11_put) (pc := 79) (st := []) (As := [.ref 30, .int (nI s), .int (rf_usable w (rf_known w s &&& ((nI 1 <<< (nI (rf_takes w s good - 1) &&& 31)) ^^^ (-1))))]) (h2 := (am_row (am_row (am_row (am_row h 31 ((cl_fg (h 31) w s (rf_takes w s good - 1) (rf_kn w s)).1)) 28 (upd (h 28) s (nI (rf_kn w s - 1)))) 29 (upd (h 29) s (rf_known w s &&& ((nI 1 <<< (nI (rf_takes w s good - 1) &&& 31)) ^^^ (-1))))) 30 (upd (h 30) s (rf_usable w (rf_known w s &&& ((nI 1 <<< (nI (rf_takes w s good - 1) &&& 31)) ^^^ (-1))))))) C dX10_hit_79 k10_44 v_X11_put rfl rfl (by decide) (Nat.zero_le _) (Nat.zero_le _) (Nat.le_of_ble_eq_true rfl) (c_X11_put 30 s (rf_usable w (rf_known w s &&& ((nI 1 <<< (nI (rf_takes w s good - 1) &&& 31)) ^^^ (-1)))) 10 bn_30 sh_30 (show s < 10 from by omega) (by decide)) ?_
      have hS1 := cl_Sc_lose hV hs htM htq hSc (h' := (am_row (am_row (am_row (am_row h 31 ((cl_fg (h 31) w s (rf_takes w s good - 1) (rf_kn w s)).1)) 28 (upd (h 28) s (nI (rf_kn w s - 1)))) 29 (upd (h 29) s (rf_known w s &&& ((nI 1 <<< (nI (rf_takes w s good - 1) &&& 31)) ^^^ (-1))))) 30 (upd (h 30) s (rf_usable w (rf_known w s &&& ((nI 1 <<< (nI (rf_takes w s good - 1) &&& 31)) ^^^ (-1))))))) rfl rfl rfl rfl rfl rfl rfl (fun i h7 g7 => by rw [am_row_ne _ _ _ (by omega), am_row_ne _ _ _ (by omega), am_row_ne _ _ _ (by omega), am_row_ne _ _ _ (by omega)])
      have hFA : cl_fr h ((am_row (am_row (am_row (am_row h 31 ((cl_fg (h 31) w s (rf_takes w s good - 1) (rf_kn w s)).1)) 28 (upd (h 28) s (nI (rf_kn w s - 1)))) 29 (upd (h 29) s (rf_known w s &&& ((nI 1 <<< (nI (rf_takes w s good - 1) &&& 31)) ^^^ (-1))))) 30 (upd (h 30) s (rf_usable w (rf_known w s &&& ((nI 1 <<< (nI (rf_takes w s good - 1) &&& 31)) ^^^ (-1))))))) 25 15 := (fun i9 h9 => by rw [am_row_ne _ _ _ (by omega), am_row_ne _ _ _ (by omega), am_row_ne _ _ _ (by omega), am_row_ne _ _ _ (by omega)])
      obtain ⟨gA, hzgA⟩ : ∃ z : am_H, z = (am_row (am_row (am_row (am_row h 31 ((cl_fg (h 31) w s (rf_takes w s good - 1) (rf_kn w s)).1)) 28 (upd (h 28) s (nI (rf_kn w s - 1)))) 29 (upd (h 29) s (rf_known w s &&& ((nI 1 <<< (nI (rf_takes w s good - 1) &&& 31)) ^^^ (-1))))) 30 (upd (h 30) s (rf_usable w (rf_known w s &&& ((nI 1 <<< (nI (rf_takes w s good - 1) &&& 31)) ^^^ (-1)))))) := ⟨_, rfl⟩
      rw [← hzgA] at hS1 hFA
      have hSA := hS1.1
      have hEA := hS1.2
      have hVA := rf_I_lose hV hs hp1
      have LA := cl_Lo_Es hV hEA (cl_Lo_eq (fun i h1 h2 => hFA i (by omega)) hLo)
      have hSe := hEA.S
      have hMe := hEA.M
      have hplA := hVA.2.1 s (by omega)
      have hB2 : rf_n ((rf_lie (rf_lose w s (rf_takes w s good - 1)) (nI (rf_takes w s good - 1)) (rf_pl (rf_lose w s (rf_takes w s good - 1)) s) (nI s)) 7) 2147483647 := by rw [rf_lie_out (by omega) (by omega) hVA.2.2.2.2.1.2.2.1.2, rf_lose_out hp1 hk13 (by omega)]; exact hB
      refine am_hp (show (am_row (am_row (am_row (am_row h 31 ((cl_fg (h 31) w s (rf_takes w s good - 1) (rf_kn w s)).1)) 28 (upd (h 28) s (nI (rf_kn w s - 1)))) 29 (upd (h 29) s (rf_known w s &&& ((nI 1 <<< (nI (rf_takes w s good - 1) &&& 31)) ^^^ (-1))))) 30 (upd (h 30) s (rf_usable w (rf_known w s &&& ((nI 1 <<< (nI (rf_takes w s good - 1) &&& 31)) ^^^ (-1)))))) = gA from hzgA.symm) ?_
      refine am_aload_n (pc := 82) C dX10_hit_82 rfl ?_
      refine am_getR (pc := 83) (j := 25) C dX10_hit_83 f10_22 bn_3 sh_3 (rf_3_2 hR) ?_
      refine am_iload (pc := 86) C dX10_hit_86 rfl ?_
      refine am_aload_n (pc := 88) C dX10_hit_88 rfl ?_
      refine am_getR (pc := 89) (j := 25) C dX10_hit_89 f10_22 bn_3 sh_3 (rf_3_2 hR) ?_
      refine am_getR (pc := 92) (j := 27) C dX10_hit_92 f10_48 bn_25 sh_25 (rf_25_6 hR) ?_
      refine am_iload_n (pc := 95) C dX10_hit_95 rfl ?_
      refine am_callSNi (Y := mX11_pick) (pc := 96) (st := [.int (nI (rf_takes w s good - 1)), .ref 25]) (As := [.ref 27, .int (nI s)]) (x := ((gA 27) s)) (h2 := gA) C dX10_hit_96 k10_54 v_X11_pick rfl rfl (by decide) (Nat.zero_le _) (Nat.zero_le _) (Nat.le_of_ble_eq_true rfl) (c_X11_pick 27 s 10 bn_27 sh_27 (show s < 10 from by omega) (by decide)) ?_
      refine am_top (show ((gA 27) s) = (rf_pl (rf_lose w s (rf_takes w s good - 1)) s) from (hSA.2.1 s (by omega)).2.1) ?_
      refine am_iload_n (pc := 99) C dX10_hit_99 rfl ?_
      refine am_callVvr (Y := mX5_layDown) (pc := 100) (st := []) (As := [.int (nI (rf_takes w s good - 1)), .int (rf_pl (rf_lose w s (rf_takes w s good - 1)) s), .int (nI s)]) (PP := fun c9 => cl_Sc c9 25 (rf_lie (rf_lose w s (rf_takes w s good - 1)) (nI (rf_takes w s good - 1)) (rf_pl (rf_lose w s (rf_takes w s good - 1)) s) (nI s)) ∧ cl_fr (gA) c9 25 15) C dX10_hit_100 k10_121 v_X5_layDown rfl rfl bn_25 sh_25 ⟨by decide, rfl⟩ (by decide) (Nat.zero_le _) (Nat.zero_le _) (Nat.le_of_ble_eq_true rfl) (c_X5_layDown hR (nI (rf_takes w s good - 1)) (rf_pl (rf_lose w s (rf_takes w s good - 1)) s) (nI s) (rf_lose w s (rf_takes w s good - 1)) hVA hSA) (fun g100_3 hg100_3 => ?_)
      obtain ⟨S100, F100⟩ := hg100_3
      have V100 := rf_I_lie (m := nI (rf_takes w s good - 1)) (p := rf_pl (rf_lose w s (rf_takes w s good - 1)) s) (x := nI s) hVA (rf_n_mk (by omega) (by omega)) (hplA.2.2.2.1 _ hplA.2.2.1.2) (rf_n_mk (by omega) (by omega))
      refine am_aload_n (pc := 103) C dX10_hit_103 rfl ?_
      refine am_getR (pc := 104) (j := 25) C dX10_hit_104 f10_22 bn_3 sh_3 (rf_3_2 hR) ?_
      refine am_iload_n (pc := 107) C dX10_hit_107 rfl ?_
      refine am_iload_n (pc := 108) C dX10_hit_108 rfl ?_
      refine am_iload (pc := 109) C dX10_hit_109 rfl ?_
      refine am_iload_n (pc := 111) C dX10_hit_111 rfl ?_
      refine am_callVvr (Y := mX5_writeRow) (pc := 112) (st := []) (As := [.int (nI b), .int (nI s), .int (nI (rf_takes w s good - 1)), .int (am_b good)]) (PP := fun c9 => cl_Sc c9 25 (rf_logs (rf_lie (rf_lose w s (rf_takes w s good - 1)) (nI (rf_takes w s good - 1)) (rf_pl (rf_lose w s (rf_takes w s good - 1)) s) (nI s)) (nI b) (nI s) (nI (rf_takes w s good - 1)) good) ∧ cl_fr (g100_3) c9 25 15) C dX10_hit_112 k10_125 v_X5_writeRow rfl rfl bn_25 sh_25 ⟨by decide, rfl⟩ (by decide) (Nat.zero_le _) (Nat.zero_le _) (Nat.le_of_ble_eq_true rfl) (c_X5_writeRow hR (nI b) (nI s) (nI (rf_takes w s good - 1)) good (rf_lie (rf_lose w s (rf_takes w s good - 1)) (nI (rf_takes w s good - 1)) (rf_pl (rf_lose w s (rf_takes w s good - 1)) s) (nI s)) V100 S100 (show rf_n ((rf_lie (rf_lose w s (rf_takes w s good - 1)) (nI (rf_takes w s good - 1)) (rf_pl (rf_lose w s (rf_takes w s good - 1)) s) (nI s)) 7) 2147483647 from hB2)) (fun g112_4 hg112_4 => ?_)
      obtain ⟨S112, F112⟩ := hg112_4
      refine am_iload (pc := 115) C dX10_hit_115 rfl ?_
      exact am_iretir T dX10_hit_117 rfl (Nat.le_refl _) (Nat.le_refl _) rfl rfl ⟨S112, (fun i h9 => (F112 i h9).trans ((F100 i h9).trans (hFA i h9)))⟩
    · skip
      exact absurd q38 (by omega)

set_option maxHeartbeats 400000 in
set_option maxRecDepth 100000 in
theorem c_X10_goOn {ad : Nat → Nat} {r : am_R} (hR : am_rs r) {h : am_H} (s : Nat) (w : rf_W) (hV : rf_I w) (hLo : cl_Lo (h) 4 w) (hSc : cl_Sc (h) 25 w) (hs : s < rf_S w)  : am_CM mX10_goOn 1 0 0 [.ref 3, .int (nI s)] (am_VV ad) r h (am_pr none r (fun c9 => cl_Sc c9 25 (upd w (61 + 23 * s + 1) (nI ((rf_ofn w s 1 + 1) % rf_ofn w s 2))) ∧ cl_fr (h) c9 25 15)) := by
  refine am_CM.of (by decide +kernel) (Nat.le_of_ble_eq_true rfl) (fun X C T => ?_)
  show am_G X (am_VV ad) (0, 0) 0 [(0, .ref 3), (1, .int (nI s))] [] r h
  have hM9 : rf_M w < 17 := hV.1.1.2
  have hS9 : rf_S w < 11 := hV.1.2.1.2
  have hO9 : rf_O w < 11 := hV.1.2.2.2
  have hIs := hV.2.1 s hs
  have hn7 : rf_ofn w s 2 < 7 := hIs.2.1.2
  have h1n : rf_ofn w s 1 < rf_ofn w s 2 := hIs.2.2.1.2
  have hmd : ((rf_ofn w s 1 + 1) % rf_ofn w s 2) < rf_ofn w s 2 := Nat.mod_lt _ (by omega)
  refine am_aload_n (pc := 0) C dX10_goOn_0 rfl ?_
  refine am_getR (pc := 1) (j := 25) C dX10_goOn_1 f10_22 bn_3 sh_3 (rf_3_2 hR) ?_
  refine am_getR (pc := 4) (j := 26) C dX10_goOn_4 f10_40 bn_25 sh_25 (rf_25_5 hR) ?_
  refine am_iload_n (pc := 7) C dX10_goOn_7 rfl ?_
  refine am_callSNi (Y := mX11_pick) (pc := 8) (st := []) (As := [.ref 26, .int (nI s)]) (x := ((h 26) s)) (h2 := h) C dX10_goOn_8 k10_54 v_X11_pick rfl rfl (by decide) (Nat.zero_le _) (Nat.zero_le _) (Nat.le_of_ble_eq_true rfl) (c_X11_pick 26 s 10 bn_26 sh_26 (show s < 10 from by omega) (by decide)) ?_
  refine am_top (show ((h 26) s) = (nI (rf_ofn w s 1)) from ((hSc.2.1 s (by omega)).1.trans (hV.2.1 s (by omega)).2.2.1.1)) ?_
  refine am_iconstN (pc := 11) (k := 1) C dX10_goOn_11 ?_
  refine am_iaddN (pc := 12) C dX10_goOn_12 ?_
  refine am_istore_n (pc := 13) (ls' := [(0, .ref 3), (1, .int (nI s)), (2, .int (nI ((rf_ofn w s 1) + 1)))]) C dX10_goOn_13 (by decide) rfl ?_
  refine am_iload_n (pc := 14) C dX10_goOn_14 rfl ?_
  refine am_aload_n (pc := 15) C dX10_goOn_15 rfl ?_
  refine am_getR (pc := 16) (j := 4) C dX10_goOn_16 f10_9 bn_3 sh_3 (rf_3_0 hR) ?_
  refine am_getR (pc := 19) (j := 12) C dX10_goOn_19 f10_79 bn_4 sh_4 (rf_4_11 hR) ?_
  refine am_iload_n (pc := 22) C dX10_goOn_22 rfl ?_
  refine am_callSNi (Y := mX11_pick) (pc := 23) (st := [.int (nI ((rf_ofn w s 1) + 1))]) (As := [.ref 12, .int (nI s)]) (x := ((h 12) s)) (h2 := h) C dX10_goOn_23 k10_54 v_X11_pick rfl rfl (by decide) (Nat.zero_le _) (Nat.zero_le _) (Nat.le_of_ble_eq_true rfl) (c_X11_pick 12 s 10 bn_12 sh_12 (show s < 10 from by omega) (by decide)) ?_
  refine am_top (show ((h 12) s) = (nI (rf_ofn w s 2)) from ((hLo.2.2.1 s (by omega)).2.2.1.trans (hV.2.1 s (by omega)).2.1.1)) ?_
  refine am_icmp_ltN (pc := 26) (tgt := 31) C dX10_goOn_26 (by decide) (by omega) (by omega) (fun q26 => ?_) (fun q26 => ?_)
  · skip
    refine am_lsv (ls' := [(0, .ref 3), (1, .int (nI s)), (2, .int (nI ((rf_ofn w s 1 + 1) % rf_ofn w s 2)))]) (congrArg (fun z9 : Int32 => ([(0, .ref 3), (1, .int (nI s)), (2, Value.int z9)] : List (Nat × Value))) (show (nI ((rf_ofn w s 1) + 1)) = (nI ((rf_ofn w s 1 + 1) % rf_ofn w s 2)) from (congrArg nI (Nat.mod_eq_of_lt q26).symm))) ?_
    refine am_aload_n (pc := 31) C dX10_goOn_31 rfl ?_
    refine am_getR (pc := 32) (j := 25) C dX10_goOn_32 f10_22 bn_3 sh_3 (rf_3_2 hR) ?_
    refine am_getR (pc := 35) (j := 26) C dX10_goOn_35 f10_40 bn_25 sh_25 (rf_25_5 hR) ?_
    refine am_iload_n (pc := 38) C dX10_goOn_38 rfl ?_
    refine am_iload_n (pc := 39) C dX10_goOn_39 rfl ?_
    refine am_callSNv (Y := mX11_put) (pc := 40) (st := []) (As := [.ref 26, .int (nI s), .int (nI ((rf_ofn w s 1 + 1) % rf_ofn w s 2))]) (h2 := (am_row h 26 (upd (h 26) s (nI ((rf_ofn w s 1 + 1) % rf_ofn w s 2))))) C dX10_goOn_40 k10_44 v_X11_put rfl rfl (by decide) (Nat.zero_le _) (Nat.zero_le _) (Nat.le_of_ble_eq_true rfl) (c_X11_put 26 s (nI ((rf_ofn w s 1 + 1) % rf_ofn w s 2)) 10 bn_26 sh_26 (show s < 10 from by omega) (by decide)) ?_
    refine am_aload_n (pc := 43) C dX10_goOn_43 rfl ?_
    refine am_getR (pc := 44) (j := 25) C dX10_goOn_44 f10_22 bn_3 sh_3 (rf_3_2 hR) ?_
    refine am_getR (pc := 47) (j := 27) C dX10_goOn_47 f10_48 bn_25 sh_25 (rf_25_6 hR) ?_
    refine am_iload_n (pc := 50) C dX10_goOn_50 rfl ?_
    refine am_aload_n (pc := 51) C dX10_goOn_51 rfl ?_
    refine am_getR (pc := 52) (j := 4) C dX10_goOn_52 f10_9 bn_3 sh_3 (rf_3_0 hR) ?_
    refine am_getR (pc := 55) (j := 13) C dX10_goOn_55 f10_51 bn_4 sh_4 (rf_4_12 hR) ?_
    refine am_iload_n (pc := 58) C dX10_goOn_58 rfl ?_
    refine am_bipush (pc := 59) (v := nI 6) C dX10_goOn_59 (by decide) ?_
    refine am_imulN (pc := 61) C dX10_goOn_61 ?_
    refine am_iload_n (pc := 62) C dX10_goOn_62 rfl ?_
    refine am_iaddN (pc := 63) C dX10_goOn_63 ?_
    refine am_callSNi (Y := mX11_pick) (pc := 64) (st := [.int (nI s), .ref 27]) (As := [.ref 13, .int (nI ((s * 6) + ((rf_ofn w s 1 + 1) % rf_ofn w s 2)))]) (x := ((h 13) ((s * 6) + ((rf_ofn w s 1 + 1) % rf_ofn w s 2)))) (h2 := (am_row h 26 (upd (h 26) s (nI ((rf_ofn w s 1 + 1) % rf_ofn w s 2))))) C dX10_goOn_64 k10_54 v_X11_pick rfl rfl (by decide) (Nat.zero_le _) (Nat.zero_le _) (Nat.le_of_ble_eq_true rfl) (c_X11_pick 13 ((s * 6) + ((rf_ofn w s 1 + 1) % rf_ofn w s 2)) 60 bn_13 sh_13 (show (s * 6) + ((rf_ofn w s 1 + 1) % rf_ofn w s 2) < 60 from by omega) (by decide)) ?_
    refine am_top (show ((h 13) ((s * 6) + ((rf_ofn w s 1 + 1) % rf_ofn w s 2))) = (rf_of w s (3 + ((rf_ofn w s 1 + 1) % rf_ofn w s 2))) from ((hLo.2.2.1 s hs).2.2.2 _ hmd)) ?_
    refine am_callSNv (Y := mX11_put) (pc := 67) (st := []) (As := [.ref 27, .int (nI s), .int (rf_of w s (3 + ((rf_ofn w s 1 + 1) % rf_ofn w s 2)))]) (h2 := (am_row (am_row h 26 (upd (h 26) s (nI ((rf_ofn w s 1 + 1) % rf_ofn w s 2)))) 27 (upd (h 27) s (rf_of w s (3 + ((rf_ofn w s 1 + 1) % rf_ofn w s 2)))))) C dX10_goOn_67 k10_44 v_X11_put rfl rfl (by decide) (Nat.zero_le _) (Nat.zero_le _) (Nat.le_of_ble_eq_true rfl) (c_X11_put 27 s (rf_of w s (3 + ((rf_ofn w s 1 + 1) % rf_ofn w s 2))) 10 bn_27 sh_27 (show s < 10 from by omega) (by decide)) ?_
    exact am_vretvr T dX10_goOn_70 rfl (Nat.le_refl _) (Nat.le_refl _) rfl ⟨(cl_Sc_at (h' := (am_row (am_row h 26 (upd (h 26) s (nI ((rf_ofn w s 1 + 1) % rf_ofn w s 2)))) 27 (upd (h 27) s (rf_of w s (3 + ((rf_ofn w s 1 + 1) % rf_ofn w s 2)))))) hV hs hmd hSc rfl rfl rfl (fun i h7 g7 => by rw [am_row_ne _ _ _ (by omega), am_row_ne _ _ _ (by omega)])).1, (fun i9 h9 => by rw [am_row_ne _ _ _ (by omega), am_row_ne _ _ _ (by omega)])⟩
  · skip
    refine am_iconstN (pc := 29) (k := 0) C dX10_goOn_29 ?_
    refine am_istore_n (pc := 30) (ls' := [(0, .ref 3), (1, .int (nI s)), (2, .int (nI 0))]) C dX10_goOn_30 (by decide) rfl ?_
    refine am_lsv (ls' := [(0, .ref 3), (1, .int (nI s)), (2, .int (nI ((rf_ofn w s 1 + 1) % rf_ofn w s 2)))]) (congrArg (fun z9 : Int32 => ([(0, .ref 3), (1, .int (nI s)), (2, Value.int z9)] : List (Nat × Value))) (show (nI 0) = (nI ((rf_ofn w s 1 + 1) % rf_ofn w s 2)) from (congrArg nI (by rw [show rf_ofn w s 1 + 1 = rf_ofn w s 2 by omega, Nat.mod_self])))) ?_
    refine am_aload_n (pc := 31) C dX10_goOn_31 rfl ?_
    refine am_getR (pc := 32) (j := 25) C dX10_goOn_32 f10_22 bn_3 sh_3 (rf_3_2 hR) ?_
    refine am_getR (pc := 35) (j := 26) C dX10_goOn_35 f10_40 bn_25 sh_25 (rf_25_5 hR) ?_
    refine am_iload_n (pc := 38) C dX10_goOn_38 rfl ?_
    refine am_iload_n (pc := 39) C dX10_goOn_39 rfl ?_
    refine am_callSNv (Y := mX11_put) (pc := 40) (st := []) (As := [.ref 26, .int (nI s), .int (nI ((rf_ofn w s 1 + 1) % rf_ofn w s 2))]) (h2 := (am_row h 26 (upd (h 26) s (nI ((rf_ofn w s 1 + 1) % rf_ofn w s 2))))) C dX10_goOn_40 k10_44 v_X11_put rfl rfl (by decide) (Nat.zero_le _) (Nat.zero_le _) (Nat.le_of_ble_eq_true rfl) (c_X11_put 26 s (nI ((rf_ofn w s 1 + 1) % rf_ofn w s 2)) 10 bn_26 sh_26 (show s < 10 from by omega) (by decide)) ?_
    refine am_aload_n (pc := 43) C dX10_goOn_43 rfl ?_
    refine am_getR (pc := 44) (j := 25) C dX10_goOn_44 f10_22 bn_3 sh_3 (rf_3_2 hR) ?_
    refine am_getR (pc := 47) (j := 27) C dX10_goOn_47 f10_48 bn_25 sh_25 (rf_25_6 hR) ?_
    refine am_iload_n (pc := 50) C dX10_goOn_50 rfl ?_
    refine am_aload_n (pc := 51) C dX10_goOn_51 rfl ?_
    refine am_getR (pc := 52) (j := 4) C dX10_goOn_52 f10_9 bn_3 sh_3 (rf_3_0 hR) ?_
    refine am_getR (pc := 55) (j := 13) C dX10_goOn_55 f10_51 bn_4 sh_4 (rf_4_12 hR) ?_
    refine am_iload_n (pc := 58) C dX10_goOn_58 rfl ?_
    refine am_bipush (pc := 59) (v := nI 6) C dX10_goOn_59 (by decide) ?_
    refine am_imulN (pc := 61) C dX10_goOn_61 ?_
    refine am_iload_n (pc := 62) C dX10_goOn_62 rfl ?_
    refine am_iaddN (pc := 63) C dX10_goOn_63 ?_
    refine am_callSNi (Y := mX11_pick) (pc := 64) (st := [.int (nI s), .ref 27]) (As := [.ref 13, .int (nI ((s * 6) + ((rf_ofn w s 1 + 1) % rf_ofn w s 2)))]) (x := ((h 13) ((s * 6) + ((rf_ofn w s 1 + 1) % rf_ofn w s 2)))) (h2 := (am_row h 26 (upd (h 26) s (nI ((rf_ofn w s 1 + 1) % rf_ofn w s 2))))) C dX10_goOn_64 k10_54 v_X11_pick rfl rfl (by decide) (Nat.zero_le _) (Nat.zero_le _) (Nat.le_of_ble_eq_true rfl) (c_X11_pick 13 ((s * 6) + ((rf_ofn w s 1 + 1) % rf_ofn w s 2)) 60 bn_13 sh_13 (show (s * 6) + ((rf_ofn w s 1 + 1) % rf_ofn w s 2) < 60 from by omega) (by decide)) ?_
    refine am_top (show ((h 13) ((s * 6) + ((rf_ofn w s 1 + 1) % rf_ofn w s 2))) = (rf_of w s (3 + ((rf_ofn w s 1 + 1) % rf_ofn w s 2))) from ((hLo.2.2.1 s hs).2.2.2 _ hmd)) ?_
    refine am_callSNv (Y := mX11_put) (pc := 67) (st := []) (As := [.ref 27, .int (nI s), .int (rf_of w s (3 + ((rf_ofn w s 1 + 1) % rf_ofn w s 2)))]) (h2 := (am_row (am_row h 26 (upd (h 26) s (nI ((rf_ofn w s 1 + 1) % rf_ofn w s 2)))) 27 (upd (h 27) s (rf_of w s (3 + ((rf_ofn w s 1 + 1) % rf_ofn w s 2)))))) C dX10_goOn_67 k10_44 v_X11_put rfl rfl (by decide) (Nat.zero_le _) (Nat.zero_le _) (Nat.le_of_ble_eq_true rfl) (c_X11_put 27 s (rf_of w s (3 + ((rf_ofn w s 1 + 1) % rf_ofn w s 2))) 10 bn_27 sh_27 (show s < 10 from by omega) (by decide)) ?_
    exact am_vretvr T dX10_goOn_70 rfl (Nat.le_refl _) (Nat.le_refl _) rfl ⟨(cl_Sc_at (h' := (am_row (am_row h 26 (upd (h 26) s (nI ((rf_ofn w s 1 + 1) % rf_ofn w s 2)))) 27 (upd (h 27) s (rf_of w s (3 + ((rf_ofn w s 1 + 1) % rf_ofn w s 2)))))) hV hs hmd hSc rfl rfl rfl (fun i h7 g7 => by rw [am_row_ne _ _ _ (by omega), am_row_ne _ _ _ (by omega)])).1, (fun i9 h9 => by rw [am_row_ne _ _ _ (by omega), am_row_ne _ _ _ (by omega)])⟩

set_option maxHeartbeats 400000 in
set_option maxRecDepth 100000 in
theorem c_X10_readAloud {ad : Nat → Nat} {r : am_R} (hR : am_rs r) {h : am_H} (s : Nat) (w : rf_W) (hV : rf_I w) (hLo : cl_Lo (h) 4 w) (hSc : cl_Sc (h) 25 w) (hs : s < rf_S w)  : am_CM mX10_readAloud 5 0 0 [.ref 3, .int (nI s)] (am_VV ad) r h (am_pr (some (.int (nI ((rf_read w s).2)))) r (fun c9 => cl_Sc c9 25 (rf_read w s).1 ∧ cl_fr (h) c9 25 15)) := by
  refine am_CM.of (by decide +kernel) (Nat.le_of_ble_eq_true rfl) (fun X C T => ?_)
  show am_G X (am_VV ad) (0, 0) 0 [(0, .ref 3), (1, .int (nI s))] [] r h
  have hM9 : rf_M w < 17 := hV.1.1.2
  have hS9 : rf_S w < 11 := hV.1.2.1.2
  have hO9 : rf_O w < 11 := hV.1.2.2.2
  refine am_aload_n (pc := 0) C dX10_readAloud_0 rfl ?_
  refine am_getR (pc := 1) (j := 25) C dX10_readAloud_1 f10_22 bn_3 sh_3 (rf_3_2 hR) ?_
  refine am_getI (pc := 4) C dX10_readAloud_4 f10_100 bn_25 sh_25 ?_
  refine am_top (show ((h 25) 3) = (w 8) from hSc.1.2.2.2.1) ?_
  refine am_istore_n (pc := 7) (ls' := [(0, .ref 3), (1, .int (nI s)), (2, .int (w 8))]) C dX10_readAloud_7 (by decide) rfl ?_
  refine am_aload_n (pc := 8) C dX10_readAloud_8 rfl ?_
  refine am_getR (pc := 9) (j := 4) C dX10_readAloud_9 f10_9 bn_3 sh_3 (rf_3_0 hR) ?_
  refine am_getR (pc := 12) (j := 11) C dX10_readAloud_12 f10_135 bn_4 sh_4 (rf_4_10 hR) ?_
  refine am_iload_n (pc := 15) C dX10_readAloud_15 rfl ?_
  refine am_callSNi (Y := mX11_pick) (pc := 16) (st := []) (As := [.ref 11, .int (nI s)]) (x := ((h 11) s)) (h2 := h) C dX10_readAloud_16 k10_54 v_X11_pick rfl rfl (by decide) (Nat.zero_le _) (Nat.zero_le _) (Nat.le_of_ble_eq_true rfl) (c_X11_pick 11 s 10 bn_11 sh_11 (show s < 10 from by omega) (by decide)) ?_
  refine am_top (show ((h 11) s) = (rf_of w s 22) from (hLo.2.2.1 s (by omega)).2.1) ?_
  refine am_istore_n (pc := 19) (ls' := [(0, .ref 3), (1, .int (nI s)), (2, .int (w 8)), (3, .int (rf_of w s 22))]) C dX10_readAloud_19 (by decide) rfl ?_
  refine am_iconstN (pc := 20) (k := 0) C dX10_readAloud_20 ?_
  refine am_istore (pc := 21) (ls' := [(0, .ref 3), (1, .int (nI s)), (2, .int (w 8)), (3, .int (rf_of w s 22)), (4, .int (nI 0))]) C dX10_readAloud_21 (by decide) rfl ?_
  have L23 : ∀ (j23 : Nat) (g : am_H) (o : Nat), (hoj : o + j23 = rf_S w) → (hS9 : cl_Sc g 25 (rf_rd2 (rf_sideIn w (rf_of w s 0) (rf_pl w s)) s (rf_M w) o (w, 0)).1) → (hF : cl_fr h g 25 15) → am_G X (am_VV ad) (0, 0) 23 [(0, .ref 3), (1, .int (nI s)), (2, .int (w 8)), (3, .int (rf_of w s 22)), (4, .int (nI o))] [] r g := by
    intro j23
    induction j23 with
    | zero =>
      intro g o hoj hS9 hF
      obtain ⟨rdI, rdE, rd8⟩ := rf_rd2_el (s := s) hV o (by omega)
      have L9 := cl_Lo_Es hV rdE.es (cl_Lo_eq (fun i h1 h2 => hF i (by omega)) hLo)
      refine am_iload (pc := 23) C dX10_readAloud_23 rfl ?_
      refine am_aload_n (pc := 25) C dX10_readAloud_25 rfl ?_
      refine am_getR (pc := 26) (j := 4) C dX10_readAloud_26 f10_9 bn_3 sh_3 (rf_3_0 hR) ?_
      refine am_getI (pc := 29) C dX10_readAloud_29 f10_138 bn_4 sh_4 ?_
      refine am_top (show ((g 4) 2) = (nI (rf_S ((rf_rd2 (rf_sideIn w (rf_of w s 0) (rf_pl w s)) s (rf_M w) o (w, 0)).1))) from (L9.1.2.2.1.trans rdI.1.2.1.1)) ?_
      refine am_top (show (nI (rf_S ((rf_rd2 (rf_sideIn w (rf_of w s 0) (rf_pl w s)) s (rf_M w) o (w, 0)).1))) = (nI (rf_S w)) from (congrArg nI rdE.es.S)) ?_
      refine am_icmp_geN (pc := 32) (tgt := 92) C dX10_readAloud_32 (by decide) (by omega) (by omega) (fun q32 => ?_) (fun q32 => ?_)
      · skip
        refine am_aload_n (pc := 92) C dX10_readAloud_92 rfl ?_
        refine am_getR (pc := 93) (j := 25) C dX10_readAloud_93 f10_22 bn_3 sh_3 (rf_3_2 hR) ?_
        refine am_getI (pc := 96) C dX10_readAloud_96 f10_100 bn_25 sh_25 ?_
        refine am_top (show ((g 25) 3) = (((rf_rd2 (rf_sideIn w (rf_of w s 0) (rf_pl w s)) s (rf_M w) o (w, 0)).1) 8) from hS9.1.2.2.2.1) ?_
        refine am_top (show (((rf_rd2 (rf_sideIn w (rf_of w s 0) (rf_pl w s)) s (rf_M w) o (w, 0)).1) 8) = (w 8 + nI (rf_read w s).2) from (rd8.trans (by rw [show o = rf_S w by omega]; rfl))) ?_
        refine am_iload_n (pc := 99) C dX10_readAloud_99 rfl ?_
        refine am_isub (pc := 100) C dX10_readAloud_100 ?_
        refine am_top (show ((w 8 + nI (rf_read w s).2) - (w 8)) = (nI ((rf_read w s).2)) from (rf_add_sub _ _)) ?_
        exact am_iretir T dX10_readAloud_101 rfl (Nat.le_refl _) (Nat.le_refl _) rfl rfl ⟨by rw [show (rf_read w s).1 = (rf_rd2 (rf_sideIn w (rf_of w s 0) (rf_pl w s)) s (rf_M w) o (w, 0)).1 from by rw [show o = rf_S w by omega]; rfl]; exact hS9, hF⟩
      · skip
        exact absurd hoj (by omega)
    | succ j23 ih23 =>
      intro g o hoj hS9 hF
      obtain ⟨rdI, rdE, rd8⟩ := rf_rd2_el (s := s) hV o (by omega)
      have L9 := cl_Lo_Es hV rdE.es (cl_Lo_eq (fun i h1 h2 => hF i (by omega)) hLo)
      have hMe := rdE.es.M
      have hSe := rdE.es.S
      have hst := rf_rd_step (s := s) (o := o) hV hs (by omega)
      refine am_iload (pc := 23) C dX10_readAloud_23 rfl ?_
      refine am_aload_n (pc := 25) C dX10_readAloud_25 rfl ?_
      refine am_getR (pc := 26) (j := 4) C dX10_readAloud_26 f10_9 bn_3 sh_3 (rf_3_0 hR) ?_
      refine am_getI (pc := 29) C dX10_readAloud_29 f10_138 bn_4 sh_4 ?_
      refine am_top (show ((g 4) 2) = (nI (rf_S ((rf_rd2 (rf_sideIn w (rf_of w s 0) (rf_pl w s)) s (rf_M w) o (w, 0)).1))) from (L9.1.2.2.1.trans rdI.1.2.1.1)) ?_
      refine am_top (show (nI (rf_S ((rf_rd2 (rf_sideIn w (rf_of w s 0) (rf_pl w s)) s (rf_M w) o (w, 0)).1))) = (nI (rf_S w)) from (congrArg nI rdE.es.S)) ?_
      refine am_icmp_geN (pc := 32) (tgt := 92) C dX10_readAloud_32 (by decide) (by omega) (by omega) (fun q32 => ?_) (fun q32 => ?_)
      · skip
        exact absurd q32 (by omega)
      · skip
        refine am_iload_n (pc := 35) C dX10_readAloud_35 rfl ?_
        refine am_aload_n (pc := 36) C dX10_readAloud_36 rfl ?_
        refine am_getR (pc := 37) (j := 25) C dX10_readAloud_37 f10_22 bn_3 sh_3 (rf_3_2 hR) ?_
        refine am_getR (pc := 40) (j := 29) C dX10_readAloud_40 f10_61 bn_25 sh_25 (rf_25_8 hR) ?_
        refine am_iload (pc := 43) C dX10_readAloud_43 rfl ?_
        refine am_callSNi (Y := mX11_pick) (pc := 45) (st := [.int (rf_of w s 22)]) (As := [.ref 29, .int (nI o)]) (x := ((g 29) o)) (h2 := g) C dX10_readAloud_45 k10_54 v_X11_pick rfl rfl (by decide) (Nat.zero_le _) (Nat.zero_le _) (Nat.le_of_ble_eq_true rfl) (c_X11_pick 29 o 10 bn_29 sh_29 (show o < 10 from by omega) (by decide)) ?_
        refine am_top (show ((g 29) o) = (rf_known ((rf_rd2 (rf_sideIn w (rf_of w s 0) (rf_pl w s)) s (rf_M w) o (w, 0)).1) o) from (hS9.2.1 o (by omega)).2.2.2.1) ?_
        refine am_iconst (pc := 48) (v := -1) C dX10_readAloud_48 rfl ?_
        refine am_ixor (pc := 49) C dX10_readAloud_49 ?_
        refine am_iand (pc := 50) C dX10_readAloud_50 ?_
        refine am_istore (pc := 51) (ls' := [(0, .ref 3), (1, .int (nI s)), (2, .int (w 8)), (3, .int (rf_of w s 22)), (4, .int (nI o)), (5, .int ((rf_of w s 22) &&& ((rf_known ((rf_rd2 (rf_sideIn w (rf_of w s 0) (rf_pl w s)) s (rf_M w) o (w, 0)).1) o) ^^^ (-1))))]) C dX10_readAloud_51 (by decide) rfl ?_
        refine am_iload (pc := 53) C dX10_readAloud_53 rfl ?_
        refine am_if_eq (pc := 55) (tgt := 86) C dX10_readAloud_55 (by decide) (fun q55 => ?_) (fun q55 => ?_)
        · skip
          refine am_iincN (pc := 86) (ls' := [(0, .ref 3), (1, .int (nI s)), (2, .int (w 8)), (3, .int (rf_of w s 22)), (4, .int (nI (o + 1))), (5, .int ((rf_of w s 22) &&& ((rf_known ((rf_rd2 (rf_sideIn w (rf_of w s 0) (rf_pl w s)) s (rf_M w) o (w, 0)).1) o) ^^^ (-1))))]) C dX10_readAloud_86 rfl (am_up1 _) (by decide) rfl ?_
          refine am_goto (pc := 89) (tgt := 23) C dX10_readAloud_89 (by decide) ?_
          refine am_sub (ls' := [(0, .ref 3), (1, .int (nI s)), (2, .int (w 8)), (3, .int (rf_of w s 22)), (4, .int (nI (o + 1)))]) (by intro q hq; simp only [List.mem_cons, List.not_mem_nil, or_false] at hq ⊢; rcases hq with rfl | rfl | rfl | rfl | rfl <;> simp) ?_
          exact ih23 g (o + 1) (by omega) (by rw [hst, rf_la_0 q55, ite_self]; exact hS9) hF
        · skip
          refine am_aload_n (pc := 58) C dX10_readAloud_58 rfl ?_
          refine am_iload_n (pc := 59) C dX10_readAloud_59 rfl ?_
          refine am_iload (pc := 60) C dX10_readAloud_60 rfl ?_
          refine am_callVi (Y := mX10_ofOneSide) (pc := 62) (st := []) (As := [.int (nI s), .int (nI o)]) (x := (am_b (decide (rf_of ((rf_rd2 (rf_sideIn w (rf_of w s 0) (rf_pl w s)) s (rf_M w) o (w, 0)).1) s 0 = rf_of ((rf_rd2 (rf_sideIn w (rf_of w s 0) (rf_pl w s)) s (rf_M w) o (w, 0)).1) o 0)))) (h2 := g) C dX10_readAloud_62 k10_141 v_X10_ofOneSide rfl rfl bn_3 sh_3 ⟨by decide, rfl⟩ (by decide) (Nat.zero_le _) (Nat.zero_le _) (Nat.le_of_ble_eq_true rfl) (c_X10_ofOneSide hR s o ((rf_rd2 (rf_sideIn w (rf_of w s 0) (rf_pl w s)) s (rf_M w) o (w, 0)).1) rdI L9 hS9 (show s < rf_S ((rf_rd2 (rf_sideIn w (rf_of w s 0) (rf_pl w s)) s (rf_M w) o (w, 0)).1) from (by omega)) (show o < rf_S ((rf_rd2 (rf_sideIn w (rf_of w s 0) (rf_pl w s)) s (rf_M w) o (w, 0)).1) from (by omega))) ?_
          refine am_if_eqB (pc := 65) (tgt := 86) C dX10_readAloud_65 (by decide) (fun q65 => ?_) (fun q65 => ?_)
          · skip
            refine am_iincN (pc := 86) (ls' := [(0, .ref 3), (1, .int (nI s)), (2, .int (w 8)), (3, .int (rf_of w s 22)), (4, .int (nI (o + 1))), (5, .int ((rf_of w s 22) &&& ((rf_known ((rf_rd2 (rf_sideIn w (rf_of w s 0) (rf_pl w s)) s (rf_M w) o (w, 0)).1) o) ^^^ (-1))))]) C dX10_readAloud_86 rfl (am_up1 _) (by decide) rfl ?_
            refine am_goto (pc := 89) (tgt := 23) C dX10_readAloud_89 (by decide) ?_
            refine am_sub (ls' := [(0, .ref 3), (1, .int (nI s)), (2, .int (w 8)), (3, .int (rf_of w s 22)), (4, .int (nI (o + 1)))]) (by intro q hq; simp only [List.mem_cons, List.not_mem_nil, or_false] at hq ⊢; rcases hq with rfl | rfl | rfl | rfl | rfl <;> simp) ?_
            exact ih23 g (o + 1) (by omega) (by rw [hst, if_neg (fun z => of_decide_eq_false q65 z.1)]; exact hS9) hF
          · skip
            refine am_aload_n (pc := 68) C dX10_readAloud_68 rfl ?_
            refine am_iload_n (pc := 69) C dX10_readAloud_69 rfl ?_
            refine am_iload (pc := 70) C dX10_readAloud_70 rfl ?_
            refine am_callVi (Y := mX10_together) (pc := 72) (st := []) (As := [.int (nI s), .int (nI o)]) (x := (am_b (decide (rf_pl ((rf_rd2 (rf_sideIn w (rf_of w s 0) (rf_pl w s)) s (rf_M w) o (w, 0)).1) s = rf_pl ((rf_rd2 (rf_sideIn w (rf_of w s 0) (rf_pl w s)) s (rf_M w) o (w, 0)).1) o)))) (h2 := g) C dX10_readAloud_72 k10_144 v_X10_together rfl rfl bn_3 sh_3 ⟨by decide, rfl⟩ (by decide) (Nat.zero_le _) (Nat.zero_le _) (Nat.le_of_ble_eq_true rfl) (c_X10_together hR s o ((rf_rd2 (rf_sideIn w (rf_of w s 0) (rf_pl w s)) s (rf_M w) o (w, 0)).1) rdI L9 hS9 (show s < rf_S ((rf_rd2 (rf_sideIn w (rf_of w s 0) (rf_pl w s)) s (rf_M w) o (w, 0)).1) from (by omega)) (show o < rf_S ((rf_rd2 (rf_sideIn w (rf_of w s 0) (rf_pl w s)) s (rf_M w) o (w, 0)).1) from (by omega))) ?_
            refine am_if_eqB (pc := 75) (tgt := 86) C dX10_readAloud_75 (by decide) (fun q75 => ?_) (fun q75 => ?_)
            · skip
              refine am_iincN (pc := 86) (ls' := [(0, .ref 3), (1, .int (nI s)), (2, .int (w 8)), (3, .int (rf_of w s 22)), (4, .int (nI (o + 1))), (5, .int ((rf_of w s 22) &&& ((rf_known ((rf_rd2 (rf_sideIn w (rf_of w s 0) (rf_pl w s)) s (rf_M w) o (w, 0)).1) o) ^^^ (-1))))]) C dX10_readAloud_86 rfl (am_up1 _) (by decide) rfl ?_
              refine am_goto (pc := 89) (tgt := 23) C dX10_readAloud_89 (by decide) ?_
              refine am_sub (ls' := [(0, .ref 3), (1, .int (nI s)), (2, .int (w 8)), (3, .int (rf_of w s 22)), (4, .int (nI (o + 1)))]) (by intro q hq; simp only [List.mem_cons, List.not_mem_nil, or_false] at hq ⊢; rcases hq with rfl | rfl | rfl | rfl | rfl <;> simp) ?_
              exact ih23 g (o + 1) (by omega) (by rw [hst, if_neg (fun z => of_decide_eq_false q75 z.2)]; exact hS9) hF
            · skip
              refine am_aload_n (pc := 78) C dX10_readAloud_78 rfl ?_
              refine am_iload (pc := 79) C dX10_readAloud_79 rfl ?_
              refine am_iload (pc := 81) C dX10_readAloud_81 rfl ?_
              refine am_callVvr (Y := mX10_learnAll) (pc := 83) (st := []) (As := [.int (nI o), .int ((rf_of w s 22) &&& ((rf_known ((rf_rd2 (rf_sideIn w (rf_of w s 0) (rf_pl w s)) s (rf_M w) o (w, 0)).1) o) ^^^ (-1)))]) (PP := fun c9 => cl_Sc c9 25 (rf_la ((rf_rd2 (rf_sideIn w (rf_of w s 0) (rf_pl w s)) s (rf_M w) o (w, 0)).1) o ((rf_of w s 22) &&& ((rf_known ((rf_rd2 (rf_sideIn w (rf_of w s 0) (rf_pl w s)) s (rf_M w) o (w, 0)).1) o) ^^^ (-1))) (rf_M ((rf_rd2 (rf_sideIn w (rf_of w s 0) (rf_pl w s)) s (rf_M w) o (w, 0)).1))) ∧ cl_fr (g) c9 25 15) C dX10_readAloud_83 k10_147 v_X10_learnAll rfl rfl bn_3 sh_3 ⟨by decide, rfl⟩ (by decide) (Nat.zero_le _) (Nat.zero_le _) (Nat.le_of_ble_eq_true rfl) (c_X10_learnAll hR o ((rf_of w s 22) &&& ((rf_known ((rf_rd2 (rf_sideIn w (rf_of w s 0) (rf_pl w s)) s (rf_M w) o (w, 0)).1) o) ^^^ (-1))) ((rf_rd2 (rf_sideIn w (rf_of w s 0) (rf_pl w s)) s (rf_M w) o (w, 0)).1) rdI L9 hS9 (show o < rf_S ((rf_rd2 (rf_sideIn w (rf_of w s 0) (rf_pl w s)) s (rf_M w) o (w, 0)).1) from (by omega))) (fun g83_1 hg83_1 => ?_)
              obtain ⟨S83, F83⟩ := hg83_1
              refine am_iincN (pc := 86) (ls' := [(0, .ref 3), (1, .int (nI s)), (2, .int (w 8)), (3, .int (rf_of w s 22)), (4, .int (nI (o + 1))), (5, .int ((rf_of w s 22) &&& ((rf_known ((rf_rd2 (rf_sideIn w (rf_of w s 0) (rf_pl w s)) s (rf_M w) o (w, 0)).1) o) ^^^ (-1))))]) C dX10_readAloud_86 rfl (am_up1 _) (by decide) rfl ?_
              refine am_goto (pc := 89) (tgt := 23) C dX10_readAloud_89 (by decide) ?_
              refine am_sub (ls' := [(0, .ref 3), (1, .int (nI s)), (2, .int (w 8)), (3, .int (rf_of w s 22)), (4, .int (nI (o + 1)))]) (by intro q hq; simp only [List.mem_cons, List.not_mem_nil, or_false] at hq ⊢; rcases hq with rfl | rfl | rfl | rfl | rfl <;> simp) ?_
              exact ih23 g83_1 (o + 1) (by omega) (by rw [hst, if_pos ⟨of_decide_eq_true q65, of_decide_eq_true q75⟩]; exact (by rw [rdE.es.M] at S83; exact S83)) (fun i h9 => (F83 i h9).trans (hF i h9))
  exact L23 (rf_S w) h 0 (by omega) hSc (fun _ _ => rfl)

