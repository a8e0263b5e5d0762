/-! THE CLASS'S PUBLIC CALLS: acts -/
section M42
/-- as before but the scene and what is remembered -/
def cl_k2 (h h9 : am_H) : Prop := ∀ i, (i < 23 ∨ 93 ≤ i) ∧ i ≠ 130 ∧ (i < 132 ∨ 322 ≤ i) ∧ i ≠ 335 → h9 i = h i
/-- an act that is done, or thrown back -/
def cl_act (r : am_R) (h : am_H) (c : Nat) (o w w' a : rf_W) : am_R → am_H → Prop := fun r9 h9 =>
  (c = 0 → am_rs r9 ∧ cl_Sc h9 25 w' ∧ cl_Pa r9 h9 (rf_remO o) w (rf_remA o w a) ∧ cl_k2 h h9) ∧ (c ≠ 0 → r9 = r ∧ cl_k h h9)
theorem cl_Pa_eq {r : am_R} {h h' : am_H} {o w a : rf_W} (e : ∀ i, 132 ≤ i → i < 314 → h' i = h i) (P : cl_Pa r h o w a) : cl_Pa r h' o w a := by
  obtain ⟨h1, c, h2, h3⟩ := P
  refine ⟨by rw [e 132 (by omega) (by omega)]; exact h1, c, h2, fun k hk => ?_⟩
  have hm : (k + c) % 12 < 12 := Nat.mod_lt _ (by decide)
  exact cl_Sc_eq (fun i a b => e i (by omega) (by omega)) (h3 k hk)
theorem rf_hrs_es {w : rf_W} (hI : rf_I w) (hB : rf_n (w 7) 1073000000) : ∀ k, k ≤ 100 → rf_Es w (rf_hrs w k) ∧ rf_n (rf_hrs w k 7) (1073000000 + 10 * k)
  | 0, _ => ⟨rf_Es.rf, hB⟩
  | k + 1, hk => by
    obtain ⟨E, B⟩ := rf_hrs_es hI hB k (by omega)
    obtain ⟨V, -⟩ : rf_I (rf_hrs w k) ∧ True := ⟨by
      have key : ∀ n, rf_I (rf_hrs w n) := by
        intro n
        induction n with
        | zero => exact hI
        | succ n ih => exact (rf_I_hour ih).1
      exact key k, trivial⟩
    obtain ⟨E2, B2⟩ := rf_Es_hour V B (by omega)
    exact ⟨E.tr E2, by rw [show 1073000000 + 10 * (k + 1) = 1073000000 + 10 * k + 10 by omega]; exact B2⟩
end M42

set_option maxHeartbeats 400000 in
set_option maxRecDepth 100000 in
theorem c_X11_shoot {ad : Nat → Nat} {r : am_R} (hR : am_rs r) {h : am_H} (a : Int32) (b : Int32) (good : Bool) (w : rf_W) (hV : rf_I w) (hLo : cl_Lo (h) 4 w) (hSc : cl_Sc (h) 25 w) (oc : rf_W) (ac : rf_W) (hn7 : rf_n (oc 7) 13) (hPa : cl_Pa r (h) oc w ac) (hB : rf_n (w 7) 1073000000)  : am_XM mX11_shoot 8 4 24 [.ref 0, .int a, .int b, .int (am_b good)] (am_VV ad) r h (ex_ret (rf_c_shoot w a b good) (rf_a_shoot w a b good) (cl_act r h (rf_c_shoot w a b good) oc w (rf_hit w (rf_nat a) (rf_nat b) good) ac)) (ex_thr ["java/lang/IndexOutOfBoundsException", "java/lang/IllegalArgumentException", "java/lang/IllegalStateException"] (rf_c_shoot w a b good) (cl_act r h (rf_c_shoot w a b good) oc w (rf_hit w (rf_nat a) (rf_nat b) good) ac)) := by
  refine am_XM.of (by decide +kernel) (Nat.le_of_ble_eq_true rfl) (by decide) (fun X C T TX => ?_)
  show am_G X (am_VV ad) (0, 0) 0 [(0, .ref 0), (1, .int a), (2, .int b), (3, .int (am_b good))] [] r h
  have hM9 : rf_M w < 17 := hV.1.1.2
  have hS9 : rf_S w < 11 := hV.1.2.1.2
  have hO9 : rf_O w < 11 := hV.1.2.2.2
  refine am_aload_n (pc := 0) C dX11_shoot_0 rfl ?_
  refine am_iload_n (pc := 1) C dX11_shoot_1 rfl ?_
  refine am_iload_n (pc := 2) C dX11_shoot_2 rfl ?_
  refine am_callVXc (Y := mX11_needTwo) (pc := 3) (st := []) (As := [.int a, .int b]) (cz := (3, 18)) C dX11_shoot_3 k11_281 v_X11_needTwo rfl rfl bn_0 sh_0 ⟨by decide, rfl⟩ (by decide) (Nat.le_of_ble_eq_true rfl) (Nat.le_of_ble_eq_true rfl) (Nat.le_of_ble_eq_true rfl) (c_X11_needTwo hR a b w hV hLo) rfl (fun E9 r9 h9 hx9 => ?_) (fun v9 r9 h9 hq9 => ?_)
  · obtain ⟨hx9, rfl, rfl⟩ := hx9
    rcases hx9 with ⟨f3_0, rfl⟩ | ⟨f3_0, f3_1, rfl⟩ | ⟨f3_0, f3_1, f3_2, rfl⟩
    · exact (TX "java/lang/IndexOutOfBoundsException" r h ⟨0, (show rf_c_shoot w a b good = 1 from by simp only [rf_c_shoot, rf_cb, f3_0, Bool.not_true, Bool.not_false, cond_true, cond_false]), rfl, ⟨fun z => absurd (z.symm.trans (show rf_c_shoot w a b good = 1 from by simp only [rf_c_shoot, rf_cb, f3_0, Bool.not_true, Bool.not_false, cond_true, cond_false])) (by decide), fun _ => ⟨rfl, (fun _ _ => rfl)⟩⟩⟩ (3, 18) 3 [(0, .ref 0), (1, .int a), (2, .int b), (3, .int (am_b good))] (Nat.le_of_ble_eq_true rfl) (Nat.le_of_ble_eq_true rfl)).1
    · exact (TX "java/lang/IndexOutOfBoundsException" r h ⟨0, (show rf_c_shoot w a b good = 1 from by simp only [rf_c_shoot, rf_cb, f3_0, f3_1, Bool.not_true, Bool.not_false, cond_true, cond_false]), rfl, ⟨fun z => absurd (z.symm.trans (show rf_c_shoot w a b good = 1 from by simp only [rf_c_shoot, rf_cb, f3_0, f3_1, Bool.not_true, Bool.not_false, cond_true, cond_false])) (by decide), fun _ => ⟨rfl, (fun _ _ => rfl)⟩⟩⟩ (3, 18) 3 [(0, .ref 0), (1, .int a), (2, .int b), (3, .int (am_b good))] (Nat.le_of_ble_eq_true rfl) (Nat.le_of_ble_eq_true rfl)).1
    · exact (TX "java/lang/IllegalArgumentException" r h ⟨1, (show rf_c_shoot w a b good = 2 from by simp only [rf_c_shoot, rf_cb, f3_0, f3_1, f3_2, Bool.not_true, Bool.not_false, cond_true, cond_false]), rfl, ⟨fun z => absurd (z.symm.trans (show rf_c_shoot w a b good = 2 from by simp only [rf_c_shoot, rf_cb, f3_0, f3_1, f3_2, Bool.not_true, Bool.not_false, cond_true, cond_false])) (by decide), fun _ => ⟨rfl, (fun _ _ => rfl)⟩⟩⟩ (3, 18) 3 [(0, .ref 0), (1, .int a), (2, .int b), (3, .int (am_b good))] (Nat.le_of_ble_eq_true rfl) (Nat.le_of_ble_eq_true rfl)).1
  obtain ⟨⟨f3_0, f3_1, f3_2⟩, rfl, rfl, rfl⟩ := hq9
  show am_G X (am_VV ad) (3, 18) 6 [(0, .ref 0), (1, .int a), (2, .int b), (3, .int (am_b good))] [] r h
  have nA := rf_okN_n (show rf_S w < 1073741824 by omega) f3_0
  have mA : rf_nat a < rf_S w := nA.2
  have nB := rf_okN_n (show rf_S w < 1073741824 by omega) f3_1
  have mB : rf_nat b < rf_S w := nB.2
  have hkb9 : rf_kn w (rf_nat b) < 13 := (hV.2.1 _ mB).2.2.2.2.1.2
  refine am_lsv (ls' := [(0, .ref 0), (1, .int (nI (rf_nat a))), (2, .int b), (3, .int (am_b good))]) (congrArg (fun z9 : Int32 => ([(0, .ref 0), (1, Value.int z9), (2, .int b), (3, .int (am_b good))] : List (Nat × Value))) (show a = (nI (rf_nat a)) from nA.1)) ?_
  refine am_lsv (ls' := [(0, .ref 0), (1, .int (nI (rf_nat a))), (2, .int (nI (rf_nat b))), (3, .int (am_b good))]) (congrArg (fun z9 : Int32 => ([(0, .ref 0), (1, .int (nI (rf_nat a))), (2, Value.int z9), (3, .int (am_b good))] : List (Nat × Value))) (show b = (nI (rf_nat b)) from nB.1)) ?_
  refine am_aload_n (pc := 6) C dX11_shoot_6 rfl ?_
  refine am_getR (pc := 7) (j := 3) C dX11_shoot_7 f11_27 bn_0 sh_0 (rf_0_1 hR) ?_
  refine am_iload_n (pc := 10) C dX11_shoot_10 rfl ?_
  refine am_iload_n (pc := 11) C dX11_shoot_11 rfl ?_
  refine am_callVi (Y := mX10_ofOneSide) (pc := 12) (st := []) (As := [.int (nI (rf_nat a)), .int (nI (rf_nat b))]) (x := (am_b (decide (rf_of w (rf_nat a) 0 = rf_of w (rf_nat b) 0)))) (h2 := h) C dX11_shoot_12 k11_285 v_X10_ofOneSide rfl rfl bn_3 sh_3 ⟨by decide, rfl⟩ (by decide) (Nat.le_of_ble_eq_true rfl) (Nat.le_of_ble_eq_true rfl) (Nat.le_of_ble_eq_true rfl) (c_X10_ofOneSide hR (rf_nat a) (rf_nat b) w hV hLo hSc (show (rf_nat a) < rf_S w from by omega) (show (rf_nat b) < rf_S w from by omega)) ?_
  refine am_if_neB (pc := 15) (tgt := 48) C dX11_shoot_15 (by decide) (fun q15 => ?_) (fun q15 => ?_)
  · skip
    exact (TX "java/lang/IllegalStateException" r h ⟨2, (show rf_c_shoot w a b good = 3 from by simp only [rf_c_shoot, rf_cb, f3_0, f3_1, f3_2, q15, Bool.not_true, Bool.not_false, cond_true, cond_false]), rfl, ⟨fun z => absurd (z.symm.trans (show rf_c_shoot w a b good = 3 from by simp only [rf_c_shoot, rf_cb, f3_0, f3_1, f3_2, q15, Bool.not_true, Bool.not_false, cond_true, cond_false])) (by decide), fun _ => ⟨rfl, (fun _ _ => rfl)⟩⟩⟩ (3, 18) 48 [(0, .ref 0), (1, .int (nI (rf_nat a))), (2, .int (nI (rf_nat b))), (3, .int (am_b good))] (Nat.le_of_ble_eq_true rfl) (Nat.le_of_ble_eq_true rfl)).2 (Nat.le_of_ble_eq_true rfl) (Nat.le_of_ble_eq_true rfl) ⟨rfl, 292, 294, 296, 34, 55, "this shot cannot be", ex_ok_IS, ⟨List.mem_of_getElem? (i := 35) rfl, by decide⟩, dX11_shoot_48, dX11_shoot_51, Or.inr ⟨dX11_shoot_52, rfl⟩, dX11_shoot_55, dX11_shoot_58⟩ [] (by decide)
  · skip
    refine am_aload_n (pc := 18) C dX11_shoot_18 rfl ?_
    refine am_getR (pc := 19) (j := 3) C dX11_shoot_19 f11_27 bn_0 sh_0 (rf_0_1 hR) ?_
    refine am_iload_n (pc := 22) C dX11_shoot_22 rfl ?_
    refine am_iload_n (pc := 23) C dX11_shoot_23 rfl ?_
    refine am_callVi (Y := mX10_together) (pc := 24) (st := []) (As := [.int (nI (rf_nat a)), .int (nI (rf_nat b))]) (x := (am_b (decide (rf_pl w (rf_nat a) = rf_pl w (rf_nat b))))) (h2 := h) C dX11_shoot_24 k11_289 v_X10_together rfl rfl bn_3 sh_3 ⟨by decide, rfl⟩ (by decide) (Nat.le_of_ble_eq_true rfl) (Nat.le_of_ble_eq_true rfl) (Nat.le_of_ble_eq_true rfl) (c_X10_together hR (rf_nat a) (rf_nat b) w hV hLo hSc (show (rf_nat a) < rf_S w from by omega) (show (rf_nat b) < rf_S w from by omega)) ?_
    refine am_if_eqB (pc := 27) (tgt := 48) C dX11_shoot_27 (by decide) (fun q27 => ?_) (fun q27 => ?_)
    · skip
      exact (TX "java/lang/IllegalStateException" r h ⟨2, (show rf_c_shoot w a b good = 3 from by simp only [rf_c_shoot, rf_cb, f3_0, f3_1, f3_2, q15, q27, Bool.not_true, Bool.not_false, cond_true, cond_false]), rfl, ⟨fun z => absurd (z.symm.trans (show rf_c_shoot w a b good = 3 from by simp only [rf_c_shoot, rf_cb, f3_0, f3_1, f3_2, q15, q27, Bool.not_true, Bool.not_false, cond_true, cond_false])) (by decide), fun _ => ⟨rfl, (fun _ _ => rfl)⟩⟩⟩ (3, 18) 48 [(0, .ref 0), (1, .int (nI (rf_nat a))), (2, .int (nI (rf_nat b))), (3, .int (am_b good))] (Nat.le_of_ble_eq_true rfl) (Nat.le_of_ble_eq_true rfl)).2 (Nat.le_of_ble_eq_true rfl) (Nat.le_of_ble_eq_true rfl) ⟨rfl, 292, 294, 296, 34, 55, "this shot cannot be", ex_ok_IS, ⟨List.mem_of_getElem? (i := 35) rfl, by decide⟩, dX11_shoot_48, dX11_shoot_51, Or.inr ⟨dX11_shoot_52, rfl⟩, dX11_shoot_55, dX11_shoot_58⟩ [] (by decide)
    · skip
      refine am_aload_n (pc := 30) C dX11_shoot_30 rfl ?_
      refine am_getR (pc := 31) (j := 3) C dX11_shoot_31 f11_27 bn_0 sh_0 (rf_0_1 hR) ?_
      refine am_getR (pc := 34) (j := 25) C dX11_shoot_34 f11_177 bn_3 sh_3 (rf_3_2 hR) ?_
      refine am_getR (pc := 37) (j := 28) C dX11_shoot_37 f11_203 bn_25 sh_25 (rf_25_7 hR) ?_
      refine am_iload_n (pc := 40) C dX11_shoot_40 rfl ?_
      refine am_callSi (Y := mX11_pick) (pc := 41) (st := []) (As := [.ref 28, .int (nI (rf_nat b))]) (x := ((h 28) (rf_nat b))) (h2 := h) C dX11_shoot_41 k11_157 v_X11_pick rfl rfl (by decide) (Nat.le_of_ble_eq_true rfl) (Nat.le_of_ble_eq_true rfl) (Nat.le_of_ble_eq_true rfl) (c_X11_pick 28 (rf_nat b) 10 bn_28 sh_28 (show rf_nat b < 10 from by omega) (by decide)) ?_
      refine am_top (show ((h 28) (rf_nat b)) = (nI (rf_kn w (rf_nat b))) from ((hSc.2.1 (rf_nat b) (by omega)).2.2.1.trans (hV.2.1 (rf_nat b) (by omega)).2.2.2.2.1.1)) ?_
      refine am_iconstN (pc := 44) (k := 1) C dX11_shoot_44 ?_
      refine am_icmp_geN (pc := 45) (tgt := 59) C dX11_shoot_45 (by decide) (by omega) (by omega) (fun q43 => ?_) (fun q43 => ?_)
      · skip
        refine am_aload_n (pc := 59) C dX11_shoot_59 rfl ?_
        refine am_getR (pc := 60) (j := 132) C dX11_shoot_60 f11_69 bn_0 sh_0 (rf_0_7 hR) ?_
        refine am_aload_n (pc := 63) C dX11_shoot_63 rfl ?_
        refine am_getR (pc := 64) (j := 3) C dX11_shoot_64 f11_27 bn_0 sh_0 (rf_0_1 hR) ?_
        refine am_getR (pc := 67) (j := 25) C dX11_shoot_67 f11_177 bn_3 sh_3 (rf_3_2 hR) ?_
        refine am_callV (mc := 0) (ms := 0) (Y := mX4_keep) (pc := 70) (st := []) (As := [.ref 25]) (Q := (fun v9 r9 h9 => v9 = none ∧ am_rs r9 ∧ cl_Pa r9 h9 (rf_remO oc) w (rf_remA oc w ac) ∧ cl_f2 (h) h9)) C dX11_shoot_70 k11_271 v_X4_keep rfl rfl bn_132 sh_132 ⟨by decide, rfl⟩ (by decide) (Nat.le_of_ble_eq_true rfl) (Nat.le_of_ble_eq_true rfl) (Nat.le_of_ble_eq_true rfl) (c_X4_keep hR w oc ac (show rf_I w from hV) (show cl_Sc (h) 25 w from hSc) (show rf_n (oc 7) 13 from hn7) (show cl_Pa r (h) oc w ac from hPa)) (fun v9 r68 g68 hq9 => ?_)
        obtain ⟨rfl, hR, P68, F68⟩ := hq9
        show am_G X (am_VV ad) (3, 18) 73 [(0, .ref 0), (1, .int (nI (rf_nat a))), (2, .int (nI (rf_nat b))), (3, .int (am_b good))] [] r68 g68
        have L68 := cl_Lo_eq (fun i a b => F68 i (by omega)) hLo
        have S68 := cl_Sc_eq (fun i a b => F68 i (by omega)) hSc
        refine am_aload_n (pc := 73) C dX11_shoot_73 rfl ?_
        refine am_getR (pc := 74) (j := 3) C dX11_shoot_74 f11_27 bn_0 sh_0 (rf_0_1 hR) ?_
        refine am_iload_n (pc := 77) C dX11_shoot_77 rfl ?_
        refine am_iload_n (pc := 78) C dX11_shoot_78 rfl ?_
        refine am_iload_n (pc := 79) C dX11_shoot_79 rfl ?_
        refine am_callVir (Y := mX10_hit) (pc := 80) (st := []) (As := [.int (nI (rf_nat a)), .int (nI (rf_nat b)), .int (am_b good)]) (x := (nI (rf_takes w (rf_nat b) good - 1))) (PP := fun c9 => cl_Sc c9 25 (rf_hit w (rf_nat a) (rf_nat b) good) ∧ cl_fr (g68) c9 25 15) C dX11_shoot_80 k11_297 v_X10_hit rfl rfl bn_3 sh_3 ⟨by decide, rfl⟩ (by decide) (Nat.le_of_ble_eq_true rfl) (Nat.le_of_ble_eq_true rfl) (Nat.le_of_ble_eq_true rfl) (c_X10_hit hR (rf_nat a) (rf_nat b) good w hV L68 S68 (show (rf_nat a) < rf_S w from (by omega)) (show (rf_nat b) < rf_S w from (by omega)) (show 0 < rf_kn w (rf_nat b) from (by omega)) (show rf_n (w 7) 2147483647 from ⟨hB.1, by have h9 := hB.2; omega⟩)) (fun g78_1 hg78_1 => ?_)
        obtain ⟨S78, F78⟩ := hg78_1
        have K9 : rf_c_shoot w a b good = 0 := (show rf_c_shoot w a b good = 0 from by simp only [rf_c_shoot, rf_cb, f3_0, f3_1, f3_2, q15, q27, (decide_eq_false (show ¬ rf_kn w (rf_nat b) = 0 by omega)), Bool.not_true, Bool.not_false, cond_true, cond_false])
        have A9 : rf_a_shoot w a b good = (nI (rf_takes w (rf_nat b) good - 1)) := rfl
        exact am_iret T dX11_shoot_83 rfl rfl (Nat.le_of_ble_eq_true rfl) (Nat.le_of_ble_eq_true rfl) ⟨K9, by rw [A9], ⟨fun _ => ⟨hR, S78, cl_Pa_eq (fun i a b => F78 i (by omega)) P68, (fun i h9 => (F78 i (by omega)).trans (F68 i (by omega)))⟩, fun z => absurd K9 z⟩⟩
      · skip
        exact (TX "java/lang/IllegalStateException" r h ⟨2, (show rf_c_shoot w a b good = 3 from by simp only [rf_c_shoot, rf_cb, f3_0, f3_1, f3_2, q15, q27, (decide_eq_true (show rf_kn w (rf_nat b) = 0 by omega)), Bool.not_true, Bool.not_false, cond_true, cond_false]), rfl, ⟨fun z => absurd (z.symm.trans (show rf_c_shoot w a b good = 3 from by simp only [rf_c_shoot, rf_cb, f3_0, f3_1, f3_2, q15, q27, (decide_eq_true (show rf_kn w (rf_nat b) = 0 by omega)), Bool.not_true, Bool.not_false, cond_true, cond_false])) (by decide), fun _ => ⟨rfl, (fun _ _ => rfl)⟩⟩⟩ (3, 18) 48 [(0, .ref 0), (1, .int (nI (rf_nat a))), (2, .int (nI (rf_nat b))), (3, .int (am_b good))] (Nat.le_of_ble_eq_true rfl) (Nat.le_of_ble_eq_true rfl)).2 (Nat.le_of_ble_eq_true rfl) (Nat.le_of_ble_eq_true rfl) ⟨rfl, 292, 294, 296, 34, 55, "this shot cannot be", ex_ok_IS, ⟨List.mem_of_getElem? (i := 35) rfl, by decide⟩, dX11_shoot_48, dX11_shoot_51, Or.inr ⟨dX11_shoot_52, rfl⟩, dX11_shoot_55, dX11_shoot_58⟩ [] (by decide)

set_option maxHeartbeats 400000 in
set_option maxRecDepth 100000 in
theorem c_X11_teach {ad : Nat → Nat} {r : am_R} (hR : am_rs r) {h : am_H} (a : Int32) (b : Int32) (m : Int32) (w : rf_W) (hV : rf_I w) (hLo : cl_Lo (h) 4 w) (hSc : cl_Sc (h) 25 w) (oc : rf_W) (ac : rf_W) (hn7 : rf_n (oc 7) 13) (hPa : cl_Pa r (h) oc w ac)  : am_XM mX11_teach 8 5 30 [.ref 0, .int a, .int b, .int m] (am_VV ad) r h (ex_ret (rf_c_teach w a b m) (rf_a_teach w a b m) (cl_act r h (rf_c_teach w a b m) oc w (rf_learn w (rf_nat a) (rf_nat m)) ac)) (ex_thr ["java/lang/IndexOutOfBoundsException", "java/lang/IllegalArgumentException", "java/lang/IllegalStateException"] (rf_c_teach w a b m) (cl_act r h (rf_c_teach w a b m) oc w (rf_learn w (rf_nat a) (rf_nat m)) ac)) := by
  refine am_XM.of (by decide +kernel) (Nat.le_of_ble_eq_true rfl) (by decide) (fun X C T TX => ?_)
  show am_G X (am_VV ad) (0, 0) 0 [(0, .ref 0), (1, .int a), (2, .int b), (3, .int m)] [] r h
  have hM9 : rf_M w < 17 := hV.1.1.2
  have hS9 : rf_S w < 11 := hV.1.2.1.2
  have hO9 : rf_O w < 11 := hV.1.2.2.2
  refine am_aload_n (pc := 0) C dX11_teach_0 rfl ?_
  refine am_iload_n (pc := 1) C dX11_teach_1 rfl ?_
  refine am_callVXc (Y := mX11_needSoldier) (pc := 2) (st := []) (As := [.int a]) (cz := (1, 6)) C dX11_teach_2 k11_194 v_X11_needSoldier rfl rfl bn_0 sh_0 ⟨by decide, rfl⟩ (by decide) (Nat.le_of_ble_eq_true rfl) (Nat.le_of_ble_eq_true rfl) (Nat.le_of_ble_eq_true rfl) (c_X11_needSoldier hR a w hV hLo) rfl (fun E9 r9 h9 hx9 => ?_) (fun v9 r9 h9 hq9 => ?_)
  · obtain ⟨hx9, rfl, rfl⟩ := hx9
    obtain ⟨f2_0, rfl⟩ := hx9
    · exact (TX "java/lang/IndexOutOfBoundsException" r h ⟨0, (show rf_c_teach w a b m = 1 from by simp only [rf_c_teach, rf_cb, f2_0, Bool.not_true, Bool.not_false, cond_true, cond_false]), rfl, ⟨fun z => absurd (z.symm.trans (show rf_c_teach w a b m = 1 from by simp only [rf_c_teach, rf_cb, f2_0, Bool.not_true, Bool.not_false, cond_true, cond_false])) (by decide), fun _ => ⟨rfl, (fun _ _ => rfl)⟩⟩⟩ (1, 6) 2 [(0, .ref 0), (1, .int a), (2, .int b), (3, .int m)] (Nat.le_of_ble_eq_true rfl) (Nat.le_of_ble_eq_true rfl)).1
  obtain ⟨f2_0, rfl, rfl, rfl⟩ := hq9
  show am_G X (am_VV ad) (1, 6) 5 [(0, .ref 0), (1, .int a), (2, .int b), (3, .int m)] [] r h
  have nA := rf_okN_n (show rf_S w < 1073741824 by omega) f2_0
  have mA : rf_nat a < rf_S w := nA.2
  refine am_aload_n (pc := 5) C dX11_teach_5 rfl ?_
  refine am_iload_n (pc := 6) C dX11_teach_6 rfl ?_
  refine am_callVXc (Y := mX11_needSoldier) (pc := 7) (st := []) (As := [.int b]) (cz := (2, 12)) C dX11_teach_7 k11_194 v_X11_needSoldier rfl rfl bn_0 sh_0 ⟨by decide, rfl⟩ (by decide) (Nat.le_of_ble_eq_true rfl) (Nat.le_of_ble_eq_true rfl) (Nat.le_of_ble_eq_true rfl) (c_X11_needSoldier hR b w hV hLo) rfl (fun E9 r9 h9 hx9 => ?_) (fun v9 r9 h9 hq9 => ?_)
  · obtain ⟨hx9, rfl, rfl⟩ := hx9
    obtain ⟨f7_0, rfl⟩ := hx9
    · exact (TX "java/lang/IndexOutOfBoundsException" r h ⟨0, (show rf_c_teach w a b m = 1 from by simp only [rf_c_teach, rf_cb, f2_0, f7_0, Bool.not_true, Bool.not_false, cond_true, cond_false]), rfl, ⟨fun z => absurd (z.symm.trans (show rf_c_teach w a b m = 1 from by simp only [rf_c_teach, rf_cb, f2_0, f7_0, Bool.not_true, Bool.not_false, cond_true, cond_false])) (by decide), fun _ => ⟨rfl, (fun _ _ => rfl)⟩⟩⟩ (2, 12) 7 [(0, .ref 0), (1, .int a), (2, .int b), (3, .int m)] (Nat.le_of_ble_eq_true rfl) (Nat.le_of_ble_eq_true rfl)).1
  obtain ⟨f7_0, rfl, rfl, rfl⟩ := hq9
  show am_G X (am_VV ad) (2, 12) 10 [(0, .ref 0), (1, .int a), (2, .int b), (3, .int m)] [] r h
  have nB := rf_okN_n (show rf_S w < 1073741824 by omega) f7_0
  have mB : rf_nat b < rf_S w := nB.2
  refine am_aload_n (pc := 10) C dX11_teach_10 rfl ?_
  refine am_iload_n (pc := 11) C dX11_teach_11 rfl ?_
  refine am_callVXc (Y := mX11_needMemory) (pc := 12) (st := []) (As := [.int m]) (cz := (3, 18)) C dX11_teach_12 k11_150 v_X11_needMemory rfl rfl bn_0 sh_0 ⟨by decide, rfl⟩ (by decide) (Nat.le_of_ble_eq_true rfl) (Nat.le_of_ble_eq_true rfl) (Nat.le_of_ble_eq_true rfl) (c_X11_needMemory hR m w hV hLo) rfl (fun E9 r9 h9 hx9 => ?_) (fun v9 r9 h9 hq9 => ?_)
  · obtain ⟨hx9, rfl, rfl⟩ := hx9
    obtain ⟨f12_0, rfl⟩ := hx9
    · exact (TX "java/lang/IndexOutOfBoundsException" r h ⟨0, (show rf_c_teach w a b m = 1 from by simp only [rf_c_teach, rf_cb, f2_0, f7_0, f12_0, Bool.not_true, Bool.not_false, cond_true, cond_false]), rfl, ⟨fun z => absurd (z.symm.trans (show rf_c_teach w a b m = 1 from by simp only [rf_c_teach, rf_cb, f2_0, f7_0, f12_0, Bool.not_true, Bool.not_false, cond_true, cond_false])) (by decide), fun _ => ⟨rfl, (fun _ _ => rfl)⟩⟩⟩ (3, 18) 12 [(0, .ref 0), (1, .int a), (2, .int b), (3, .int m)] (Nat.le_of_ble_eq_true rfl) (Nat.le_of_ble_eq_true rfl)).1
  obtain ⟨f12_0, rfl, rfl, rfl⟩ := hq9
  show am_G X (am_VV ad) (3, 18) 15 [(0, .ref 0), (1, .int a), (2, .int b), (3, .int m)] [] r h
  have nC := rf_okN_n (show rf_M w < 1073741824 by omega) f12_0
  have mC : rf_nat m < rf_M w := nC.2
  refine am_iload_n (pc := 15) C dX11_teach_15 rfl ?_
  refine am_iload_n (pc := 16) C dX11_teach_16 rfl ?_
  refine am_callSXc (Y := mX11_needUnlike) (pc := 17) (st := []) (As := [.int a, .int b]) (cz := (4, 24)) C dX11_teach_17 k11_301 v_X11_needUnlike rfl rfl (by decide) (Nat.le_of_ble_eq_true rfl) (Nat.le_of_ble_eq_true rfl) (Nat.le_of_ble_eq_true rfl) (c_X11_needUnlike hR a b) rfl (fun E9 r9 h9 hx9 => ?_) (fun v9 r9 h9 hq9 => ?_)
  · obtain ⟨hx9, rfl, rfl⟩ := hx9
    obtain ⟨f17_0, rfl⟩ := hx9
    · exact (TX "java/lang/IllegalArgumentException" r h ⟨1, (show rf_c_teach w a b m = 2 from by simp only [rf_c_teach, rf_cb, f2_0, f7_0, f12_0, f17_0, Bool.not_true, Bool.not_false, cond_true, cond_false]), rfl, ⟨fun z => absurd (z.symm.trans (show rf_c_teach w a b m = 2 from by simp only [rf_c_teach, rf_cb, f2_0, f7_0, f12_0, f17_0, Bool.not_true, Bool.not_false, cond_true, cond_false])) (by decide), fun _ => ⟨rfl, (fun _ _ => rfl)⟩⟩⟩ (4, 24) 17 [(0, .ref 0), (1, .int a), (2, .int b), (3, .int m)] (Nat.le_of_ble_eq_true rfl) (Nat.le_of_ble_eq_true rfl)).1
  obtain ⟨f17_0, rfl, rfl, rfl⟩ := hq9
  show am_G X (am_VV ad) (4, 24) 20 [(0, .ref 0), (1, .int a), (2, .int b), (3, .int m)] [] r h
  refine am_lsv (ls' := [(0, .ref 0), (1, .int (nI (rf_nat a))), (2, .int b), (3, .int m)]) (congrArg (fun z9 : Int32 => ([(0, .ref 0), (1, Value.int z9), (2, .int b), (3, .int m)] : List (Nat × Value))) (show a = (nI (rf_nat a)) from nA.1)) ?_
  refine am_lsv (ls' := [(0, .ref 0), (1, .int (nI (rf_nat a))), (2, .int (nI (rf_nat b))), (3, .int m)]) (congrArg (fun z9 : Int32 => ([(0, .ref 0), (1, .int (nI (rf_nat a))), (2, Value.int z9), (3, .int m)] : List (Nat × Value))) (show b = (nI (rf_nat b)) from nB.1)) ?_
  refine am_lsv (ls' := [(0, .ref 0), (1, .int (nI (rf_nat a))), (2, .int (nI (rf_nat b))), (3, .int (nI (rf_nat m)))]) (congrArg (fun z9 : Int32 => ([(0, .ref 0), (1, .int (nI (rf_nat a))), (2, .int (nI (rf_nat b))), (3, Value.int z9)] : List (Nat × Value))) (show m = (nI (rf_nat m)) from nC.1)) ?_
  refine am_aload_n (pc := 20) C dX11_teach_20 rfl ?_
  refine am_getR (pc := 21) (j := 3) C dX11_teach_21 f11_27 bn_0 sh_0 (rf_0_1 hR) ?_
  refine am_iload_n (pc := 24) C dX11_teach_24 rfl ?_
  refine am_iload_n (pc := 25) C dX11_teach_25 rfl ?_
  refine am_callVi (Y := mX10_ofOneSide) (pc := 26) (st := []) (As := [.int (nI (rf_nat a)), .int (nI (rf_nat b))]) (x := (am_b (decide (rf_of w (rf_nat a) 0 = rf_of w (rf_nat b) 0)))) (h2 := h) C dX11_teach_26 k11_285 v_X10_ofOneSide rfl rfl bn_3 sh_3 ⟨by decide, rfl⟩ (by decide) (Nat.le_of_ble_eq_true rfl) (Nat.le_of_ble_eq_true rfl) (Nat.le_of_ble_eq_true rfl) (c_X10_ofOneSide hR (rf_nat a) (rf_nat b) w hV hLo hSc (show (rf_nat a) < rf_S w from by omega) (show (rf_nat b) < rf_S w from by omega)) ?_
  refine am_if_eqB (pc := 29) (tgt := 48) C dX11_teach_29 (by decide) (fun q29 => ?_) (fun q29 => ?_)
  · skip
    refine am_iconstN (pc := 48) (k := 0) C dX11_teach_48 ?_
    refine am_istore (pc := 49) (ls' := [(0, .ref 0), (1, .int (nI (rf_nat a))), (2, .int (nI (rf_nat b))), (3, .int (nI (rf_nat m))), (4, .int (nI 0))]) C dX11_teach_49 (by decide) rfl ?_
    refine am_iload (pc := 51) C dX11_teach_51 rfl ?_
    refine am_if_eqN (pc := 53) (tgt := 80) C dX11_teach_53 (by decide) (by omega) (fun q53 => ?_) (fun q53 => ?_)
    · skip
      exact (TX "java/lang/IllegalStateException" r h ⟨2, (show rf_c_teach w a b m = 3 from by simp only [rf_c_teach, rf_cb, f2_0, f7_0, f12_0, f17_0, q29, Bool.not_true, Bool.not_false, cond_true, cond_false]), rfl, ⟨fun z => absurd (z.symm.trans (show rf_c_teach w a b m = 3 from by simp only [rf_c_teach, rf_cb, f2_0, f7_0, f12_0, f17_0, q29, Bool.not_true, Bool.not_false, cond_true, cond_false])) (by decide), fun _ => ⟨rfl, (fun _ _ => rfl)⟩⟩⟩ (4, 24) 80 [(0, .ref 0), (1, .int (nI (rf_nat a))), (2, .int (nI (rf_nat b))), (3, .int (nI (rf_nat m))), (4, .int (nI 0))] (Nat.le_of_ble_eq_true rfl) (Nat.le_of_ble_eq_true rfl)).2 (Nat.le_of_ble_eq_true rfl) (Nat.le_of_ble_eq_true rfl) ⟨rfl, 292, 310, 296, 35, 87, "this cannot be taught", ex_ok_IS, ⟨List.mem_of_getElem? (i := 36) rfl, by decide⟩, dX11_teach_80, dX11_teach_83, Or.inr ⟨dX11_teach_84, rfl⟩, dX11_teach_87, dX11_teach_90⟩ [] (by decide)
    · skip
      exact absurd q53 (by decide)
  · skip
    refine am_aload_n (pc := 32) C dX11_teach_32 rfl ?_
    refine am_getR (pc := 33) (j := 3) C dX11_teach_33 f11_27 bn_0 sh_0 (rf_0_1 hR) ?_
    refine am_iload_n (pc := 36) C dX11_teach_36 rfl ?_
    refine am_iload_n (pc := 37) C dX11_teach_37 rfl ?_
    refine am_callVi (Y := mX10_together) (pc := 38) (st := []) (As := [.int (nI (rf_nat a)), .int (nI (rf_nat b))]) (x := (am_b (decide (rf_pl w (rf_nat a) = rf_pl w (rf_nat b))))) (h2 := h) C dX11_teach_38 k11_289 v_X10_together rfl rfl bn_3 sh_3 ⟨by decide, rfl⟩ (by decide) (Nat.le_of_ble_eq_true rfl) (Nat.le_of_ble_eq_true rfl) (Nat.le_of_ble_eq_true rfl) (c_X10_together hR (rf_nat a) (rf_nat b) w hV hLo hSc (show (rf_nat a) < rf_S w from by omega) (show (rf_nat b) < rf_S w from by omega)) ?_
    refine am_if_eqB (pc := 41) (tgt := 48) C dX11_teach_41 (by decide) (fun q41 => ?_) (fun q41 => ?_)
    · skip
      refine am_iconstN (pc := 48) (k := 0) C dX11_teach_48 ?_
      refine am_istore (pc := 49) (ls' := [(0, .ref 0), (1, .int (nI (rf_nat a))), (2, .int (nI (rf_nat b))), (3, .int (nI (rf_nat m))), (4, .int (nI 0))]) C dX11_teach_49 (by decide) rfl ?_
      refine am_iload (pc := 51) C dX11_teach_51 rfl ?_
      refine am_if_eqN (pc := 53) (tgt := 80) C dX11_teach_53 (by decide) (by omega) (fun q53 => ?_) (fun q53 => ?_)
      · skip
        exact (TX "java/lang/IllegalStateException" r h ⟨2, (show rf_c_teach w a b m = 3 from by simp only [rf_c_teach, rf_cb, f2_0, f7_0, f12_0, f17_0, q29, q41, Bool.not_true, Bool.not_false, cond_true, cond_false]), rfl, ⟨fun z => absurd (z.symm.trans (show rf_c_teach w a b m = 3 from by simp only [rf_c_teach, rf_cb, f2_0, f7_0, f12_0, f17_0, q29, q41, Bool.not_true, Bool.not_false, cond_true, cond_false])) (by decide), fun _ => ⟨rfl, (fun _ _ => rfl)⟩⟩⟩ (4, 24) 80 [(0, .ref 0), (1, .int (nI (rf_nat a))), (2, .int (nI (rf_nat b))), (3, .int (nI (rf_nat m))), (4, .int (nI 0))] (Nat.le_of_ble_eq_true rfl) (Nat.le_of_ble_eq_true rfl)).2 (Nat.le_of_ble_eq_true rfl) (Nat.le_of_ble_eq_true rfl) ⟨rfl, 292, 310, 296, 35, 87, "this cannot be taught", ex_ok_IS, ⟨List.mem_of_getElem? (i := 36) rfl, by decide⟩, dX11_teach_80, dX11_teach_83, Or.inr ⟨dX11_teach_84, rfl⟩, dX11_teach_87, dX11_teach_90⟩ [] (by decide)
      · skip
        exact absurd q53 (by decide)
    · skip
      refine am_iconstN (pc := 44) (k := 1) C dX11_teach_44 ?_
      refine am_goto (pc := 45) (tgt := 49) C dX11_teach_45 (by decide) ?_
      refine am_istore (pc := 49) (ls' := [(0, .ref 0), (1, .int (nI (rf_nat a))), (2, .int (nI (rf_nat b))), (3, .int (nI (rf_nat m))), (4, .int (nI 1))]) C dX11_teach_49 (by decide) rfl ?_
      refine am_iload (pc := 51) C dX11_teach_51 rfl ?_
      refine am_if_eqN (pc := 53) (tgt := 80) C dX11_teach_53 (by decide) (by omega) (fun q53 => ?_) (fun q53 => ?_)
      · skip
        exact absurd q53 (by decide)
      · skip
        refine am_aload_n (pc := 56) C dX11_teach_56 rfl ?_
        refine am_getR (pc := 57) (j := 3) C dX11_teach_57 f11_27 bn_0 sh_0 (rf_0_1 hR) ?_
        refine am_iload_n (pc := 60) C dX11_teach_60 rfl ?_
        refine am_iload_n (pc := 61) C dX11_teach_61 rfl ?_
        refine am_callVi (Y := mX10_canUse) (pc := 62) (st := []) (As := [.int (nI (rf_nat b)), .int (nI (rf_nat m))]) (x := (am_b (am_bt (rf_use w (rf_nat b)) (rf_nat m)))) (h2 := h) C dX11_teach_62 k11_304 v_X10_canUse rfl rfl bn_3 sh_3 ⟨by decide, rfl⟩ (by decide) (Nat.le_of_ble_eq_true rfl) (Nat.le_of_ble_eq_true rfl) (Nat.le_of_ble_eq_true rfl) (c_X10_canUse hR (rf_nat b) (rf_nat m) w hV hLo hSc (show (rf_nat b) < rf_S w from by omega) (show (rf_nat m) < 32 from by omega)) ?_
        refine am_if_eqB (pc := 65) (tgt := 80) C dX11_teach_65 (by decide) (fun q65 => ?_) (fun q65 => ?_)
        · skip
          exact (TX "java/lang/IllegalStateException" r h ⟨2, (show rf_c_teach w a b m = 3 from by simp only [rf_c_teach, rf_cb, f2_0, f7_0, f12_0, f17_0, q29, q41, q65, Bool.not_true, Bool.not_false, cond_true, cond_false]), rfl, ⟨fun z => absurd (z.symm.trans (show rf_c_teach w a b m = 3 from by simp only [rf_c_teach, rf_cb, f2_0, f7_0, f12_0, f17_0, q29, q41, q65, Bool.not_true, Bool.not_false, cond_true, cond_false])) (by decide), fun _ => ⟨rfl, (fun _ _ => rfl)⟩⟩⟩ (4, 24) 80 [(0, .ref 0), (1, .int (nI (rf_nat a))), (2, .int (nI (rf_nat b))), (3, .int (nI (rf_nat m))), (4, .int (nI 1))] (Nat.le_of_ble_eq_true rfl) (Nat.le_of_ble_eq_true rfl)).2 (Nat.le_of_ble_eq_true rfl) (Nat.le_of_ble_eq_true rfl) ⟨rfl, 292, 310, 296, 35, 87, "this cannot be taught", ex_ok_IS, ⟨List.mem_of_getElem? (i := 36) rfl, by decide⟩, dX11_teach_80, dX11_teach_83, Or.inr ⟨dX11_teach_84, rfl⟩, dX11_teach_87, dX11_teach_90⟩ [] (by decide)
        · skip
          refine am_aload_n (pc := 68) C dX11_teach_68 rfl ?_
          refine am_getR (pc := 69) (j := 3) C dX11_teach_69 f11_27 bn_0 sh_0 (rf_0_1 hR) ?_
          refine am_iload_n (pc := 72) C dX11_teach_72 rfl ?_
          refine am_iload_n (pc := 73) C dX11_teach_73 rfl ?_
          refine am_callVi (Y := mX10_canLearn) (pc := 74) (st := []) (As := [.int (nI (rf_nat a)), .int (nI (rf_nat m))]) (x := (am_b (rf_can w (rf_nat a) (rf_nat m)))) (h2 := h) C dX11_teach_74 k11_307 v_X10_canLearn rfl rfl bn_3 sh_3 ⟨by decide, rfl⟩ (by decide) (Nat.le_of_ble_eq_true rfl) (Nat.le_of_ble_eq_true rfl) (Nat.le_of_ble_eq_true rfl) (c_X10_canLearn hR (rf_nat a) (rf_nat m) w hV hLo hSc (show (rf_nat a) < rf_S w from by omega) (show (rf_nat m) < rf_M w from by omega)) ?_
          refine am_if_neB (pc := 77) (tgt := 91) C dX11_teach_77 (by decide) (fun q77 => ?_) (fun q77 => ?_)
          · skip
            refine am_aload_n (pc := 91) C dX11_teach_91 rfl ?_
            refine am_getR (pc := 92) (j := 132) C dX11_teach_92 f11_69 bn_0 sh_0 (rf_0_7 hR) ?_
            refine am_aload_n (pc := 95) C dX11_teach_95 rfl ?_
            refine am_getR (pc := 96) (j := 3) C dX11_teach_96 f11_27 bn_0 sh_0 (rf_0_1 hR) ?_
            refine am_getR (pc := 99) (j := 25) C dX11_teach_99 f11_177 bn_3 sh_3 (rf_3_2 hR) ?_
            refine am_callV (mc := 0) (ms := 0) (Y := mX4_keep) (pc := 102) (st := []) (As := [.ref 25]) (Q := (fun v9 r9 h9 => v9 = none ∧ am_rs r9 ∧ cl_Pa r9 h9 (rf_remO oc) w (rf_remA oc w ac) ∧ cl_f2 (h) h9)) C dX11_teach_102 k11_271 v_X4_keep rfl rfl bn_132 sh_132 ⟨by decide, rfl⟩ (by decide) (Nat.le_of_ble_eq_true rfl) (Nat.le_of_ble_eq_true rfl) (Nat.le_of_ble_eq_true rfl) (c_X4_keep hR w oc ac (show rf_I w from hV) (show cl_Sc (h) 25 w from hSc) (show rf_n (oc 7) 13 from hn7) (show cl_Pa r (h) oc w ac from hPa)) (fun v9 r102 g102 hq9 => ?_)
            obtain ⟨rfl, hR, P102, F102⟩ := hq9
            show am_G X (am_VV ad) (4, 24) 105 [(0, .ref 0), (1, .int (nI (rf_nat a))), (2, .int (nI (rf_nat b))), (3, .int (nI (rf_nat m))), (4, .int (nI 1))] [] r102 g102
            have L102 := cl_Lo_eq (fun i a b => F102 i (by omega)) hLo
            have S102 := cl_Sc_eq (fun i a b => F102 i (by omega)) hSc
            refine am_aload_n (pc := 105) C dX11_teach_105 rfl ?_
            refine am_getR (pc := 106) (j := 3) C dX11_teach_106 f11_27 bn_0 sh_0 (rf_0_1 hR) ?_
            refine am_iload_n (pc := 109) C dX11_teach_109 rfl ?_
            refine am_iload_n (pc := 110) C dX11_teach_110 rfl ?_
            refine am_callVvr (Y := mX10_learn) (pc := 111) (st := []) (As := [.int (nI (rf_nat a)), .int (nI (rf_nat m))]) (PP := fun c9 => cl_Sc c9 25 (rf_learn w (rf_nat a) (rf_nat m)) ∧ cl_fr (g102) c9 25 15) C dX11_teach_111 k11_312 v_X10_learn rfl rfl bn_3 sh_3 ⟨by decide, rfl⟩ (by decide) (Nat.le_of_ble_eq_true rfl) (Nat.le_of_ble_eq_true rfl) (Nat.le_of_ble_eq_true rfl) (c_X10_learn hR (rf_nat a) (rf_nat m) w hV L102 S102 (show (rf_nat a) < rf_S w from (by omega)) (show (rf_nat m) < rf_M w from (by omega)) (show rf_can w (rf_nat a) (rf_nat m) = true from q77)) (fun g111_1 hg111_1 => ?_)
            obtain ⟨S111, F111⟩ := hg111_1
            refine am_aload_n (pc := 114) C dX11_teach_114 rfl ?_
            refine am_getR (pc := 115) (j := 3) C dX11_teach_115 f11_27 bn_0 sh_0 (rf_0_1 hR) ?_
            refine am_getR (pc := 118) (j := 25) C dX11_teach_118 f11_177 bn_3 sh_3 (rf_3_2 hR) ?_
            refine am_getR (pc := 121) (j := 28) C dX11_teach_121 f11_203 bn_25 sh_25 (rf_25_7 hR) ?_
            refine am_iload_n (pc := 124) C dX11_teach_124 rfl ?_
            refine am_callSi (Y := mX11_pick) (pc := 125) (st := []) (As := [.ref 28, .int (nI (rf_nat a))]) (x := ((g111_1 28) (rf_nat a))) (h2 := g111_1) C dX11_teach_125 k11_157 v_X11_pick rfl rfl (by decide) (Nat.le_of_ble_eq_true rfl) (Nat.le_of_ble_eq_true rfl) (Nat.le_of_ble_eq_true rfl) (c_X11_pick 28 (rf_nat a) 10 bn_28 sh_28 (show rf_nat a < 10 from by omega) (by decide)) ?_
            refine am_top (show ((g111_1 28) (rf_nat a)) = (rf_of (rf_learn w (rf_nat a) (rf_nat m)) (rf_nat a) 9) from ((S111.2.1 _ (by rw [(rf_El_learn (w := w) (m := rf_nat m) (show rf_nat a < 10 by omega)).es.S]; exact mA)).2.2.1)) ?_
            have K9 : rf_c_teach w a b m = 0 := (show rf_c_teach w a b m = 0 from by simp only [rf_c_teach, rf_cb, f2_0, f7_0, f12_0, f17_0, q29, q41, q65, q77, Bool.not_true, Bool.not_false, cond_true, cond_false])
            have A9 : rf_a_teach w a b m = (rf_of (rf_learn w (rf_nat a) (rf_nat m)) (rf_nat a) 9) := rfl
            exact am_iret T dX11_teach_128 rfl rfl (Nat.le_of_ble_eq_true rfl) (Nat.le_of_ble_eq_true rfl) ⟨K9, by rw [A9], ⟨fun _ => ⟨hR, S111, cl_Pa_eq (fun i a b => F111 i (by omega)) P102, (fun i h9 => (F111 i (by omega)).trans (F102 i (by omega)))⟩, fun z => absurd K9 z⟩⟩
          · skip
            exact (TX "java/lang/IllegalStateException" r h ⟨2, (show rf_c_teach w a b m = 3 from by simp only [rf_c_teach, rf_cb, f2_0, f7_0, f12_0, f17_0, q29, q41, q65, q77, Bool.not_true, Bool.not_false, cond_true, cond_false]), rfl, ⟨fun z => absurd (z.symm.trans (show rf_c_teach w a b m = 3 from by simp only [rf_c_teach, rf_cb, f2_0, f7_0, f12_0, f17_0, q29, q41, q65, q77, Bool.not_true, Bool.not_false, cond_true, cond_false])) (by decide), fun _ => ⟨rfl, (fun _ _ => rfl)⟩⟩⟩ (4, 24) 80 [(0, .ref 0), (1, .int (nI (rf_nat a))), (2, .int (nI (rf_nat b))), (3, .int (nI (rf_nat m))), (4, .int (nI 1))] (Nat.le_of_ble_eq_true rfl) (Nat.le_of_ble_eq_true rfl)).2 (Nat.le_of_ble_eq_true rfl) (Nat.le_of_ble_eq_true rfl) ⟨rfl, 292, 310, 296, 35, 87, "this cannot be taught", ex_ok_IS, ⟨List.mem_of_getElem? (i := 36) rfl, by decide⟩, dX11_teach_80, dX11_teach_83, Or.inr ⟨dX11_teach_84, rfl⟩, dX11_teach_87, dX11_teach_90⟩ [] (by decide)

set_option maxHeartbeats 400000 in
set_option maxRecDepth 100000 in
theorem c_X11_gather {ad : Nat → Nat} {r : am_R} (hR : am_rs r) {h : am_H} (s : Int32) (k : Int32) (w : rf_W) (hV : rf_I w) (hLo : cl_Lo (h) 4 w) (hSc : cl_Sc (h) 25 w) (oc : rf_W) (ac : rf_W) (hn7 : rf_n (oc 7) 13) (hPa : cl_Pa r (h) oc w ac)  : am_XM mX11_gather 8 3 18 [.ref 0, .int s, .int k] (am_VV ad) r h (ex_ret (rf_c_gather w s k) (rf_a_gather w s k) (cl_act r h (rf_c_gather w s k) oc w (rf_remove (rf_learn w (rf_nat s) (rf_nat (rf_fld w (rf_nat k) 0))) (rf_nat k)) ac)) (ex_thr ["java/lang/IndexOutOfBoundsException", "java/lang/IllegalStateException"] (rf_c_gather w s k) (cl_act r h (rf_c_gather w s k) oc w (rf_remove (rf_learn w (rf_nat s) (rf_nat (rf_fld w (rf_nat k) 0))) (rf_nat k)) ac)) := by
  refine am_XM.of (by decide +kernel) (Nat.le_of_ble_eq_true rfl) (by decide) (fun X C T TX => ?_)
  show am_G X (am_VV ad) (0, 0) 0 [(0, .ref 0), (1, .int s), (2, .int k)] [] r h
  have hM9 : rf_M w < 17 := hV.1.1.2
  have hS9 : rf_S w < 11 := hV.1.2.1.2
  have hO9 : rf_O w < 11 := hV.1.2.2.2
  have hF9 : rf_F w < 41 := hV.2.2.2.2.1.2.2.1.2
  refine am_aload_n (pc := 0) C dX11_gather_0 rfl ?_
  refine am_iload_n (pc := 1) C dX11_gather_1 rfl ?_
  refine am_callVXc (Y := mX11_needSoldier) (pc := 2) (st := []) (As := [.int s]) (cz := (1, 6)) C dX11_gather_2 k11_194 v_X11_needSoldier rfl rfl bn_0 sh_0 ⟨by decide, rfl⟩ (by decide) (Nat.le_of_ble_eq_true rfl) (Nat.le_of_ble_eq_true rfl) (Nat.le_of_ble_eq_true rfl) (c_X11_needSoldier hR s w hV hLo) rfl (fun E9 r9 h9 hx9 => ?_) (fun v9 r9 h9 hq9 => ?_)
  · obtain ⟨hx9, rfl, rfl⟩ := hx9
    obtain ⟨f2_0, rfl⟩ := hx9
    · exact (TX "java/lang/IndexOutOfBoundsException" r h ⟨0, (show rf_c_gather w s k = 1 from by simp only [rf_c_gather, rf_cb, f2_0, Bool.not_true, Bool.not_false, cond_true, cond_false]), rfl, ⟨fun z => absurd (z.symm.trans (show rf_c_gather w s k = 1 from by simp only [rf_c_gather, rf_cb, f2_0, Bool.not_true, Bool.not_false, cond_true, cond_false])) (by decide), fun _ => ⟨rfl, (fun _ _ => rfl)⟩⟩⟩ (1, 6) 2 [(0, .ref 0), (1, .int s), (2, .int k)] (Nat.le_of_ble_eq_true rfl) (Nat.le_of_ble_eq_true rfl)).1
  obtain ⟨f2_0, rfl, rfl, rfl⟩ := hq9
  show am_G X (am_VV ad) (1, 6) 5 [(0, .ref 0), (1, .int s), (2, .int k)] [] r h
  have nA := rf_okN_n (show rf_S w < 1073741824 by omega) f2_0
  have mA : rf_nat s < rf_S w := nA.2
  refine am_aload_n (pc := 5) C dX11_gather_5 rfl ?_
  refine am_iload_n (pc := 6) C dX11_gather_6 rfl ?_
  refine am_callVXc (Y := mX11_needThing) (pc := 7) (st := []) (As := [.int k]) (cz := (2, 12)) C dX11_gather_7 k11_315 v_X11_needThing rfl rfl bn_0 sh_0 ⟨by decide, rfl⟩ (by decide) (Nat.le_of_ble_eq_true rfl) (Nat.le_of_ble_eq_true rfl) (Nat.le_of_ble_eq_true rfl) (c_X11_needThing hR k w hV hSc) rfl (fun E9 r9 h9 hx9 => ?_) (fun v9 r9 h9 hq9 => ?_)
  · obtain ⟨hx9, rfl, rfl⟩ := hx9
    obtain ⟨f7_0, rfl⟩ := hx9
    · exact (TX "java/lang/IndexOutOfBoundsException" r h ⟨0, (show rf_c_gather w s k = 1 from by simp only [rf_c_gather, rf_cb, f2_0, f7_0, Bool.not_true, Bool.not_false, cond_true, cond_false]), rfl, ⟨fun z => absurd (z.symm.trans (show rf_c_gather w s k = 1 from by simp only [rf_c_gather, rf_cb, f2_0, f7_0, Bool.not_true, Bool.not_false, cond_true, cond_false])) (by decide), fun _ => ⟨rfl, (fun _ _ => rfl)⟩⟩⟩ (2, 12) 7 [(0, .ref 0), (1, .int s), (2, .int k)] (Nat.le_of_ble_eq_true rfl) (Nat.le_of_ble_eq_true rfl)).1
  obtain ⟨f7_0, rfl, rfl, rfl⟩ := hq9
  show am_G X (am_VV ad) (2, 12) 10 [(0, .ref 0), (1, .int s), (2, .int k)] [] r h
  have nB := rf_okN_n (show rf_F w < 1073741824 by omega) f7_0
  have mB : rf_nat k < rf_F w := nB.2
  have nM := (hV.2.2.2.2.2.2.1 _ mB).1
  have mM : rf_nat (rf_fld w (rf_nat k) 0) < rf_M w := nM.2
  refine am_lsv (ls' := [(0, .ref 0), (1, .int (nI (rf_nat s))), (2, .int k)]) (congrArg (fun z9 : Int32 => ([(0, .ref 0), (1, Value.int z9), (2, .int k)] : List (Nat × Value))) (show s = (nI (rf_nat s)) from nA.1)) ?_
  refine am_lsv (ls' := [(0, .ref 0), (1, .int (nI (rf_nat s))), (2, .int (nI (rf_nat k)))]) (congrArg (fun z9 : Int32 => ([(0, .ref 0), (1, .int (nI (rf_nat s))), (2, Value.int z9)] : List (Nat × Value))) (show k = (nI (rf_nat k)) from nB.1)) ?_
  refine am_aload_n (pc := 10) C dX11_gather_10 rfl ?_
  refine am_getR (pc := 11) (j := 3) C dX11_gather_11 f11_27 bn_0 sh_0 (rf_0_1 hR) ?_
  refine am_getR (pc := 14) (j := 25) C dX11_gather_14 f11_177 bn_3 sh_3 (rf_3_2 hR) ?_
  refine am_getR (pc := 17) (j := 32) C dX11_gather_17 f11_318 bn_25 sh_25 (rf_25_11 hR) ?_
  refine am_iload_n (pc := 20) C dX11_gather_20 rfl ?_
  refine am_callSi (Y := mX11_pick) (pc := 21) (st := []) (As := [.ref 32, .int (nI (rf_nat k))]) (x := ((h 32) (rf_nat k))) (h2 := h) C dX11_gather_21 k11_157 v_X11_pick rfl rfl (by decide) (Nat.le_of_ble_eq_true rfl) (Nat.le_of_ble_eq_true rfl) (Nat.le_of_ble_eq_true rfl) (c_X11_pick 32 (rf_nat k) 40 bn_32 sh_32 (show rf_nat k < 40 from by omega) (by decide)) ?_
  refine am_top (show ((h 32) (rf_nat k)) = (rf_fld w (rf_nat k) 0) from (hSc.2.2.1 (rf_nat k) (by omega)).1) ?_
  refine am_istore_n (pc := 24) (ls' := [(0, .ref 0), (1, .int (nI (rf_nat s))), (2, .int (nI (rf_nat k))), (3, .int (rf_fld w (rf_nat k) 0))]) C dX11_gather_24 (by decide) rfl ?_
  refine am_lsv (ls' := [(0, .ref 0), (1, .int (nI (rf_nat s))), (2, .int (nI (rf_nat k))), (3, .int (nI (rf_nat (rf_fld w (rf_nat k) 0))))]) (congrArg (fun z9 : Int32 => ([(0, .ref 0), (1, .int (nI (rf_nat s))), (2, .int (nI (rf_nat k))), (3, Value.int z9)] : List (Nat × Value))) (show (rf_fld w (rf_nat k) 0) = (nI (rf_nat (rf_fld w (rf_nat k) 0))) from nM.1)) ?_
  refine am_aload_n (pc := 25) C dX11_gather_25 rfl ?_
  refine am_getR (pc := 26) (j := 3) C dX11_gather_26 f11_27 bn_0 sh_0 (rf_0_1 hR) ?_
  refine am_getR (pc := 29) (j := 25) C dX11_gather_29 f11_177 bn_3 sh_3 (rf_3_2 hR) ?_
  refine am_getR (pc := 32) (j := 33) C dX11_gather_32 f11_321 bn_25 sh_25 (rf_25_12 hR) ?_
  refine am_iload_n (pc := 35) C dX11_gather_35 rfl ?_
  refine am_callSi (Y := mX11_pick) (pc := 36) (st := []) (As := [.ref 33, .int (nI (rf_nat k))]) (x := ((h 33) (rf_nat k))) (h2 := h) C dX11_gather_36 k11_157 v_X11_pick rfl rfl (by decide) (Nat.le_of_ble_eq_true rfl) (Nat.le_of_ble_eq_true rfl) (Nat.le_of_ble_eq_true rfl) (c_X11_pick 33 (rf_nat k) 40 bn_33 sh_33 (show rf_nat k < 40 from by omega) (by decide)) ?_
  refine am_top (show ((h 33) (rf_nat k)) = (rf_fld w (rf_nat k) 1) from (hSc.2.2.1 (rf_nat k) (by omega)).2.1) ?_
  refine am_aload_n (pc := 39) C dX11_gather_39 rfl ?_
  refine am_getR (pc := 40) (j := 3) C dX11_gather_40 f11_27 bn_0 sh_0 (rf_0_1 hR) ?_
  refine am_getR (pc := 43) (j := 25) C dX11_gather_43 f11_177 bn_3 sh_3 (rf_3_2 hR) ?_
  refine am_getR (pc := 46) (j := 27) C dX11_gather_46 f11_200 bn_25 sh_25 (rf_25_6 hR) ?_
  refine am_iload_n (pc := 49) C dX11_gather_49 rfl ?_
  refine am_callSi (Y := mX11_pick) (pc := 50) (st := [.int (rf_fld w (rf_nat k) 1)]) (As := [.ref 27, .int (nI (rf_nat s))]) (x := ((h 27) (rf_nat s))) (h2 := h) C dX11_gather_50 k11_157 v_X11_pick rfl rfl (by decide) (Nat.le_of_ble_eq_true rfl) (Nat.le_of_ble_eq_true rfl) (Nat.le_of_ble_eq_true rfl) (c_X11_pick 27 (rf_nat s) 10 bn_27 sh_27 (show rf_nat s < 10 from by omega) (by decide)) ?_
  refine am_top (show ((h 27) (rf_nat s)) = (rf_pl w (rf_nat s)) from (hSc.2.1 (rf_nat s) (by omega)).2.1) ?_
  refine am_icmp_ne (pc := 53) (tgt := 68) C dX11_gather_53 (by decide) (fun q47 => ?_) (fun q47 => ?_)
  · skip
    exact (TX "java/lang/IllegalStateException" r h ⟨1, (show rf_c_gather w s k = 2 from by simp only [rf_c_gather, rf_cb, f2_0, f7_0, (decide_eq_false q47), Bool.not_true, Bool.not_false, cond_true, cond_false]), rfl, ⟨fun z => absurd (z.symm.trans (show rf_c_gather w s k = 2 from by simp only [rf_c_gather, rf_cb, f2_0, f7_0, (decide_eq_false q47), Bool.not_true, Bool.not_false, cond_true, cond_false])) (by decide), fun _ => ⟨rfl, (fun _ _ => rfl)⟩⟩⟩ (2, 12) 68 [(0, .ref 0), (1, .int (nI (rf_nat s))), (2, .int (nI (rf_nat k))), (3, .int (nI (rf_nat (rf_fld w (rf_nat k) 0))))] (Nat.le_of_ble_eq_true rfl) (Nat.le_of_ble_eq_true rfl)).2 (Nat.le_of_ble_eq_true rfl) (Nat.le_of_ble_eq_true rfl) ⟨rfl, 292, 324, 296, 37, 75, "this cannot be gathered", ex_ok_IS, ⟨List.mem_of_getElem? (i := 38) rfl, by decide⟩, dX11_gather_68, dX11_gather_71, Or.inr ⟨dX11_gather_72, rfl⟩, dX11_gather_75, dX11_gather_78⟩ [] (by decide)
  · skip
    refine am_aload_n (pc := 56) C dX11_gather_56 rfl ?_
    refine am_getR (pc := 57) (j := 3) C dX11_gather_57 f11_27 bn_0 sh_0 (rf_0_1 hR) ?_
    refine am_iload_n (pc := 60) C dX11_gather_60 rfl ?_
    refine am_iload_n (pc := 61) C dX11_gather_61 rfl ?_
    refine am_callVi (Y := mX10_canLearn) (pc := 62) (st := []) (As := [.int (nI (rf_nat s)), .int (nI (rf_nat (rf_fld w (rf_nat k) 0)))]) (x := (am_b (rf_can w (rf_nat s) (rf_nat (rf_fld w (rf_nat k) 0))))) (h2 := h) C dX11_gather_62 k11_307 v_X10_canLearn rfl rfl bn_3 sh_3 ⟨by decide, rfl⟩ (by decide) (Nat.le_of_ble_eq_true rfl) (Nat.le_of_ble_eq_true rfl) (Nat.le_of_ble_eq_true rfl) (c_X10_canLearn hR (rf_nat s) (rf_nat (rf_fld w (rf_nat k) 0)) w hV hLo hSc (show (rf_nat s) < rf_S w from by omega) (show (rf_nat (rf_fld w (rf_nat k) 0)) < rf_M w from by omega)) ?_
    refine am_if_neB (pc := 65) (tgt := 79) C dX11_gather_65 (by decide) (fun q59 => ?_) (fun q59 => ?_)
    · skip
      refine am_aload_n (pc := 79) C dX11_gather_79 rfl ?_
      refine am_getR (pc := 80) (j := 132) C dX11_gather_80 f11_69 bn_0 sh_0 (rf_0_7 hR) ?_
      refine am_aload_n (pc := 83) C dX11_gather_83 rfl ?_
      refine am_getR (pc := 84) (j := 3) C dX11_gather_84 f11_27 bn_0 sh_0 (rf_0_1 hR) ?_
      refine am_getR (pc := 87) (j := 25) C dX11_gather_87 f11_177 bn_3 sh_3 (rf_3_2 hR) ?_
      refine am_callV (mc := 0) (ms := 0) (Y := mX4_keep) (pc := 90) (st := []) (As := [.ref 25]) (Q := (fun v9 r9 h9 => v9 = none ∧ am_rs r9 ∧ cl_Pa r9 h9 (rf_remO oc) w (rf_remA oc w ac) ∧ cl_f2 (h) h9)) C dX11_gather_90 k11_271 v_X4_keep rfl rfl bn_132 sh_132 ⟨by decide, rfl⟩ (by decide) (Nat.le_of_ble_eq_true rfl) (Nat.le_of_ble_eq_true rfl) (Nat.le_of_ble_eq_true rfl) (c_X4_keep hR w oc ac (show rf_I w from hV) (show cl_Sc (h) 25 w from hSc) (show rf_n (oc 7) 13 from hn7) (show cl_Pa r (h) oc w ac from hPa)) (fun v9 r84 g84 hq9 => ?_)
      obtain ⟨rfl, hR, P84, F84⟩ := hq9
      show am_G X (am_VV ad) (2, 12) 93 [(0, .ref 0), (1, .int (nI (rf_nat s))), (2, .int (nI (rf_nat k))), (3, .int (nI (rf_nat (rf_fld w (rf_nat k) 0))))] [] r84 g84
      have L84 := cl_Lo_eq (fun i a b => F84 i (by omega)) hLo
      have S84 := cl_Sc_eq (fun i a b => F84 i (by omega)) hSc
      refine am_aload_n (pc := 93) C dX11_gather_93 rfl ?_
      refine am_getR (pc := 94) (j := 3) C dX11_gather_94 f11_27 bn_0 sh_0 (rf_0_1 hR) ?_
      refine am_iload_n (pc := 97) C dX11_gather_97 rfl ?_
      refine am_iload_n (pc := 98) C dX11_gather_98 rfl ?_
      refine am_callVvr (Y := mX10_learn) (pc := 99) (st := []) (As := [.int (nI (rf_nat s)), .int (nI (rf_nat (rf_fld w (rf_nat k) 0)))]) (PP := fun c9 => cl_Sc c9 25 (rf_learn w (rf_nat s) (rf_nat (rf_fld w (rf_nat k) 0))) ∧ cl_fr (g84) c9 25 15) C dX11_gather_99 k11_312 v_X10_learn rfl rfl bn_3 sh_3 ⟨by decide, rfl⟩ (by decide) (Nat.le_of_ble_eq_true rfl) (Nat.le_of_ble_eq_true rfl) (Nat.le_of_ble_eq_true rfl) (c_X10_learn hR (rf_nat s) (rf_nat (rf_fld w (rf_nat k) 0)) w hV L84 S84 (show (rf_nat s) < rf_S w from (by omega)) (show (rf_nat (rf_fld w (rf_nat k) 0)) < rf_M w from (by omega)) (show rf_can w (rf_nat s) (rf_nat (rf_fld w (rf_nat k) 0)) = true from q59)) (fun g93_1 hg93_1 => ?_)
      obtain ⟨S93, F93⟩ := hg93_1
      have I93 := rf_I_learn (s := rf_nat s) (m := rf_nat (rf_fld w (rf_nat k) 0)) hV (by omega) (by omega)
      have hk93 : rf_nat k < rf_F (rf_learn w (rf_nat s) (rf_nat (rf_fld w (rf_nat k) 0))) := by rw [rf_F_learn (by omega) (hV.2.1 _ mA).2.2.2.2.1.2]; exact mB
      refine am_aload_n (pc := 102) C dX11_gather_102 rfl ?_
      refine am_getR (pc := 103) (j := 3) C dX11_gather_103 f11_27 bn_0 sh_0 (rf_0_1 hR) ?_
      refine am_getR (pc := 106) (j := 25) C dX11_gather_106 f11_177 bn_3 sh_3 (rf_3_2 hR) ?_
      refine am_iload_n (pc := 109) C dX11_gather_109 rfl ?_
      refine am_callVv (Y := mX5_takeThing) (pc := 110) (st := []) (As := [.int (nI (rf_nat k))]) (h2 := (am_row (am_row (am_row (am_row g93_1 32 (va_cpy (g93_1 32) (g93_1 32) ((rf_nat k) + 1) (rf_nat k) (rf_F (rf_learn w (rf_nat s) (rf_nat (rf_fld w (rf_nat k) 0))) - 1 - (rf_nat k)))) 33 (va_cpy (g93_1 33) (g93_1 33) ((rf_nat k) + 1) (rf_nat k) (rf_F (rf_learn w (rf_nat s) (rf_nat (rf_fld w (rf_nat k) 0))) - 1 - (rf_nat k)))) 34 (va_cpy (g93_1 34) (g93_1 34) ((rf_nat k) + 1) (rf_nat k) (rf_F (rf_learn w (rf_nat s) (rf_nat (rf_fld w (rf_nat k) 0))) - 1 - (rf_nat k)))) 25 (upd (g93_1 25) 4 (nI (rf_F (rf_learn w (rf_nat s) (rf_nat (rf_fld w (rf_nat k) 0))) - 1))))) C dX11_gather_110 k11_326 v_X5_takeThing rfl rfl bn_25 sh_25 ⟨by decide, rfl⟩ (by decide) (Nat.le_of_ble_eq_true rfl) (Nat.le_of_ble_eq_true rfl) (Nat.le_of_ble_eq_true rfl) (c_X5_takeThing hR (rf_nat k) (rf_learn w (rf_nat s) (rf_nat (rf_fld w (rf_nat k) 0))) (show rf_I (rf_learn w (rf_nat s) (rf_nat (rf_fld w (rf_nat k) 0))) from I93) (show cl_Sc (g93_1) 25 (rf_learn w (rf_nat s) (rf_nat (rf_fld w (rf_nat k) 0))) from S93) (show (rf_nat k) < rf_F (rf_learn w (rf_nat s) (rf_nat (rf_fld w (rf_nat k) 0))) from hk93)) ?_
      refine am_iload_n (pc := 113) C dX11_gather_113 rfl ?_
      have K9 : rf_c_gather w s k = 0 := (show rf_c_gather w s k = 0 from by simp only [rf_c_gather, rf_cb, f2_0, f7_0, (decide_eq_true q47), q59, Bool.not_true, Bool.not_false, cond_true, cond_false])
      have A9 : rf_a_gather w s k = (nI (rf_nat (rf_fld w (rf_nat k) 0))) := rfl
      exact am_iret T dX11_gather_114 rfl rfl (Nat.le_of_ble_eq_true rfl) (Nat.le_of_ble_eq_true rfl) ⟨K9, by rw [A9], ⟨fun _ => ⟨hR, (cl_Sc_remove I93 hk93 S93 (by rw [am_row_at]) (fun i a b c d e => by rw [am_row_ne _ _ _ (by omega), am_row_ne _ _ _ (by omega), am_row_ne _ _ _ (by omega), am_row_ne _ _ _ (by omega)]) (by rw [am_row_ne _ _ _ (by omega), am_row_ne _ _ _ (by omega), am_row_ne _ _ _ (by omega), am_row_at]) (by rw [am_row_ne _ _ _ (by omega), am_row_ne _ _ _ (by omega), am_row_at]) (by rw [am_row_ne _ _ _ (by omega), am_row_at])).1, cl_Pa_eq (fun i a b => by rw [am_row_ne _ _ _ (by omega), am_row_ne _ _ _ (by omega), am_row_ne _ _ _ (by omega), am_row_ne _ _ _ (by omega)]; exact F93 i (by omega)) P84, (fun i9 h9 => by rw [am_row_ne _ _ _ (by omega), am_row_ne _ _ _ (by omega), am_row_ne _ _ _ (by omega), am_row_ne _ _ _ (by omega)]; exact (F93 i9 (by omega)).trans (F84 i9 (by omega)))⟩, fun z => absurd K9 z⟩⟩
    · skip
      exact (TX "java/lang/IllegalStateException" r h ⟨1, (show rf_c_gather w s k = 2 from by simp only [rf_c_gather, rf_cb, f2_0, f7_0, (decide_eq_true q47), q59, Bool.not_true, Bool.not_false, cond_true, cond_false]), rfl, ⟨fun z => absurd (z.symm.trans (show rf_c_gather w s k = 2 from by simp only [rf_c_gather, rf_cb, f2_0, f7_0, (decide_eq_true q47), q59, Bool.not_true, Bool.not_false, cond_true, cond_false])) (by decide), fun _ => ⟨rfl, (fun _ _ => rfl)⟩⟩⟩ (2, 12) 68 [(0, .ref 0), (1, .int (nI (rf_nat s))), (2, .int (nI (rf_nat k))), (3, .int (nI (rf_nat (rf_fld w (rf_nat k) 0))))] (Nat.le_of_ble_eq_true rfl) (Nat.le_of_ble_eq_true rfl)).2 (Nat.le_of_ble_eq_true rfl) (Nat.le_of_ble_eq_true rfl) ⟨rfl, 292, 324, 296, 37, 75, "this cannot be gathered", ex_ok_IS, ⟨List.mem_of_getElem? (i := 38) rfl, by decide⟩, dX11_gather_68, dX11_gather_71, Or.inr ⟨dX11_gather_72, rfl⟩, dX11_gather_75, dX11_gather_78⟩ [] (by decide)

set_option maxHeartbeats 400000 in
set_option maxRecDepth 100000 in
theorem c_X11_read {ad : Nat → Nat} {r : am_R} (hR : am_rs r) {h : am_H} (s : Int32) (w : rf_W) (hV : rf_I w) (hLo : cl_Lo (h) 4 w) (hSc : cl_Sc (h) 25 w) (oc : rf_W) (ac : rf_W) (hn7 : rf_n (oc 7) 13) (hPa : cl_Pa r (h) oc w ac)  : am_XM mX11_read 8 2 12 [.ref 0, .int s] (am_VV ad) r h (ex_ret (rf_c_read w s) (rf_a_read w s) (cl_act r h (rf_c_read w s) oc w ((rf_read w (rf_nat s)).1) ac)) (ex_thr ["java/lang/IndexOutOfBoundsException", "java/lang/IllegalStateException"] (rf_c_read w s) (cl_act r h (rf_c_read w s) oc w ((rf_read w (rf_nat s)).1) ac)) := by
  refine am_XM.of (by decide +kernel) (Nat.le_of_ble_eq_true rfl) (by decide) (fun X C T TX => ?_)
  show am_G X (am_VV ad) (0, 0) 0 [(0, .ref 0), (1, .int s)] [] r h
  have hM9 : rf_M w < 17 := hV.1.1.2
  have hS9 : rf_S w < 11 := hV.1.2.1.2
  have hO9 : rf_O w < 11 := hV.1.2.2.2
  refine am_aload_n (pc := 0) C dX11_read_0 rfl ?_
  refine am_iload_n (pc := 1) C dX11_read_1 rfl ?_
  refine am_callVXc (Y := mX11_needSoldier) (pc := 2) (st := []) (As := [.int s]) (cz := (1, 6)) C dX11_read_2 k11_194 v_X11_needSoldier rfl rfl bn_0 sh_0 ⟨by decide, rfl⟩ (by decide) (Nat.le_of_ble_eq_true rfl) (Nat.le_of_ble_eq_true rfl) (Nat.le_of_ble_eq_true rfl) (c_X11_needSoldier hR s w hV hLo) rfl (fun E9 r9 h9 hx9 => ?_) (fun v9 r9 h9 hq9 => ?_)
  · obtain ⟨hx9, rfl, rfl⟩ := hx9
    obtain ⟨f2_0, rfl⟩ := hx9
    · exact (TX "java/lang/IndexOutOfBoundsException" r h ⟨0, (show rf_c_read w s = 1 from by simp only [rf_c_read, rf_cb, f2_0, Bool.not_true, Bool.not_false, cond_true, cond_false]), rfl, ⟨fun z => absurd (z.symm.trans (show rf_c_read w s = 1 from by simp only [rf_c_read, rf_cb, f2_0, Bool.not_true, Bool.not_false, cond_true, cond_false])) (by decide), fun _ => ⟨rfl, (fun _ _ => rfl)⟩⟩⟩ (1, 6) 2 [(0, .ref 0), (1, .int s)] (Nat.le_of_ble_eq_true rfl) (Nat.le_of_ble_eq_true rfl)).1
  obtain ⟨f2_0, rfl, rfl, rfl⟩ := hq9
  show am_G X (am_VV ad) (1, 6) 5 [(0, .ref 0), (1, .int s)] [] r h
  have nA := rf_okN_n (show rf_S w < 1073741824 by omega) f2_0
  have mA : rf_nat s < rf_S w := nA.2
  refine am_lsv (ls' := [(0, .ref 0), (1, .int (nI (rf_nat s)))]) (congrArg (fun z9 : Int32 => ([(0, .ref 0), (1, Value.int z9)] : List (Nat × Value))) (show s = (nI (rf_nat s)) from nA.1)) ?_
  refine am_aload_n (pc := 5) C dX11_read_5 rfl ?_
  refine am_getR (pc := 6) (j := 3) C dX11_read_6 f11_27 bn_0 sh_0 (rf_0_1 hR) ?_
  refine am_getR (pc := 9) (j := 4) C dX11_read_9 f11_31 bn_3 sh_3 (rf_3_0 hR) ?_
  refine am_getR (pc := 12) (j := 11) C dX11_read_12 f11_212 bn_4 sh_4 (rf_4_10 hR) ?_
  refine am_iload_n (pc := 15) C dX11_read_15 rfl ?_
  refine am_callSi (Y := mX11_pick) (pc := 16) (st := []) (As := [.ref 11, .int (nI (rf_nat s))]) (x := ((h 11) (rf_nat s))) (h2 := h) C dX11_read_16 k11_157 v_X11_pick rfl rfl (by decide) (Nat.le_of_ble_eq_true rfl) (Nat.le_of_ble_eq_true rfl) (Nat.le_of_ble_eq_true rfl) (c_X11_pick 11 (rf_nat s) 10 bn_11 sh_11 (show rf_nat s < 10 from by omega) (by decide)) ?_
  refine am_top (show ((h 11) (rf_nat s)) = (rf_of w (rf_nat s) 22) from (hLo.2.2.1 (rf_nat s) (by omega)).2.1) ?_
  refine am_if_ne (pc := 19) (tgt := 33) C dX11_read_19 (by decide) (fun q17 => ?_) (fun q17 => ?_)
  · skip
    refine am_aload_n (pc := 33) C dX11_read_33 rfl ?_
    refine am_getR (pc := 34) (j := 132) C dX11_read_34 f11_69 bn_0 sh_0 (rf_0_7 hR) ?_
    refine am_aload_n (pc := 37) C dX11_read_37 rfl ?_
    refine am_getR (pc := 38) (j := 3) C dX11_read_38 f11_27 bn_0 sh_0 (rf_0_1 hR) ?_
    refine am_getR (pc := 41) (j := 25) C dX11_read_41 f11_177 bn_3 sh_3 (rf_3_2 hR) ?_
    refine am_callV (mc := 0) (ms := 0) (Y := mX4_keep) (pc := 44) (st := []) (As := [.ref 25]) (Q := (fun v9 r9 h9 => v9 = none ∧ am_rs r9 ∧ cl_Pa r9 h9 (rf_remO oc) w (rf_remA oc w ac) ∧ cl_f2 (h) h9)) C dX11_read_44 k11_271 v_X4_keep rfl rfl bn_132 sh_132 ⟨by decide, rfl⟩ (by decide) (Nat.le_of_ble_eq_true rfl) (Nat.le_of_ble_eq_true rfl) (Nat.le_of_ble_eq_true rfl) (c_X4_keep hR w oc ac (show rf_I w from hV) (show cl_Sc (h) 25 w from hSc) (show rf_n (oc 7) 13 from hn7) (show cl_Pa r (h) oc w ac from hPa)) (fun v9 r42 g42 hq9 => ?_)
    obtain ⟨rfl, hR, P42, F42⟩ := hq9
    show am_G X (am_VV ad) (1, 6) 47 [(0, .ref 0), (1, .int (nI (rf_nat s)))] [] r42 g42
    have L42 := cl_Lo_eq (fun i a b => F42 i (by omega)) hLo
    have S42 := cl_Sc_eq (fun i a b => F42 i (by omega)) hSc
    refine am_aload_n (pc := 47) C dX11_read_47 rfl ?_
    refine am_getR (pc := 48) (j := 3) C dX11_read_48 f11_27 bn_0 sh_0 (rf_0_1 hR) ?_
    refine am_iload_n (pc := 51) C dX11_read_51 rfl ?_
    refine am_callVir (Y := mX10_readAloud) (pc := 52) (st := []) (As := [.int (nI (rf_nat s))]) (x := (nI ((rf_read w (rf_nat s)).2))) (PP := fun c9 => cl_Sc c9 25 (rf_read w (rf_nat s)).1 ∧ cl_fr (g42) c9 25 15) C dX11_read_52 k11_331 v_X10_readAloud rfl rfl bn_3 sh_3 ⟨by decide, rfl⟩ (by decide) (Nat.le_of_ble_eq_true rfl) (Nat.le_of_ble_eq_true rfl) (Nat.le_of_ble_eq_true rfl) (c_X10_readAloud hR (rf_nat s) w hV L42 S42 (show (rf_nat s) < rf_S w from (by omega))) (fun g50_1 hg50_1 => ?_)
    obtain ⟨S50, F50⟩ := hg50_1
    have K9 : rf_c_read w s = 0 := (show rf_c_read w s = 0 from by simp only [rf_c_read, rf_cb, f2_0, (decide_eq_false q17), Bool.not_true, Bool.not_false, cond_true, cond_false])
    have A9 : rf_a_read w s = (nI ((rf_read w (rf_nat s)).2)) := rfl
    exact am_iret T dX11_read_55 rfl rfl (Nat.le_of_ble_eq_true rfl) (Nat.le_of_ble_eq_true rfl) ⟨K9, by rw [A9], ⟨fun _ => ⟨hR, S50, cl_Pa_eq (fun i a b => F50 i (by omega)) P42, (fun i h9 => (F50 i (by omega)).trans (F42 i (by omega)))⟩, fun z => absurd K9 z⟩⟩
  · skip
    exact (TX "java/lang/IllegalStateException" r h ⟨1, (show rf_c_read w s = 2 from by simp only [rf_c_read, rf_cb, f2_0, (decide_eq_true q17), Bool.not_true, Bool.not_false, cond_true, cond_false]), rfl, ⟨fun z => absurd (z.symm.trans (show rf_c_read w s = 2 from by simp only [rf_c_read, rf_cb, f2_0, (decide_eq_true q17), Bool.not_true, Bool.not_false, cond_true, cond_false])) (by decide), fun _ => ⟨rfl, (fun _ _ => rfl)⟩⟩⟩ (1, 6) 22 [(0, .ref 0), (1, .int (nI (rf_nat s)))] (Nat.le_of_ble_eq_true rfl) (Nat.le_of_ble_eq_true rfl)).2 (Nat.le_of_ble_eq_true rfl) (Nat.le_of_ble_eq_true rfl) ⟨rfl, 292, 329, 296, 38, 29, "there is no book", ex_ok_IS, ⟨List.mem_of_getElem? (i := 39) rfl, by decide⟩, dX11_read_22, dX11_read_25, Or.inr ⟨dX11_read_26, rfl⟩, dX11_read_29, dX11_read_32⟩ [] (by decide)

set_option maxHeartbeats 400000 in
set_option maxRecDepth 100000 in
theorem c_X11_hours {ad : Nat → Nat} {r : am_R} (hR : am_rs r) {h : am_H} (n : Int32) (w : rf_W) (hV : rf_I w) (hLo : cl_Lo (h) 4 w) (hSc : cl_Sc (h) 25 w) (oc : rf_W) (ac : rf_W) (hn7 : rf_n (oc 7) 13) (hPa : cl_Pa r (h) oc w ac) (hB : rf_n (w 7) 1073000000) (hLw : rf_Lw w) (hLk : rf_Lk w) (hA : cl_La (h) 17 w)  : am_XM mX11_hours 8 1 6 [.ref 0, .int n] (am_VV ad) r h (ex_ret (rf_c_hours w n) (rf_a_hours w n) (cl_act r h (rf_c_hours w n) oc w (rf_hrs w (rf_nat n)) ac)) (ex_thr ["java/lang/IllegalArgumentException"] (rf_c_hours w n) (cl_act r h (rf_c_hours w n) oc w (rf_hrs w (rf_nat n)) ac)) := by
  refine am_XM.of (by decide +kernel) (Nat.le_of_ble_eq_true rfl) (by decide) (fun X C T TX => ?_)
  show am_G X (am_VV ad) (0, 0) 0 [(0, .ref 0), (1, .int n)] [] r h
  have hM9 : rf_M w < 17 := hV.1.1.2
  have hS9 : rf_S w < 11 := hV.1.2.1.2
  have hO9 : rf_O w < 11 := hV.1.2.2.2
  refine am_iload_n (pc := 0) C dX11_hours_0 rfl ?_
  refine am_iconstN (pc := 1) (k := 1) C dX11_hours_1 ?_
  refine am_bipush (pc := 2) (v := nI 60) C dX11_hours_2 (by decide) ?_
  refine am_callSXc (Y := mX11_needNumber) (pc := 4) (st := []) (As := [.int n, .int (nI 1), .int (nI 60)]) (cz := (1, 6)) C dX11_hours_4 k11_234 v_X11_needNumber rfl rfl (by decide) (Nat.le_of_ble_eq_true rfl) (Nat.le_of_ble_eq_true rfl) (Nat.le_of_ble_eq_true rfl) (c_X11_needNumber hR n 1 60) rfl (fun E9 r9 h9 hx9 => ?_) (fun v9 r9 h9 hq9 => ?_)
  · obtain ⟨hx9, rfl, rfl⟩ := hx9
    obtain ⟨f4_0, rfl⟩ := hx9
    · exact (TX "java/lang/IllegalArgumentException" r h ⟨0, (show rf_c_hours w n = 1 from by simp only [rf_c_hours, rf_cb, f4_0, Bool.not_true, Bool.not_false, cond_true, cond_false]), rfl, ⟨fun z => absurd (z.symm.trans (show rf_c_hours w n = 1 from by simp only [rf_c_hours, rf_cb, f4_0, Bool.not_true, Bool.not_false, cond_true, cond_false])) (by decide), fun _ => ⟨rfl, (fun _ _ => rfl)⟩⟩⟩ (1, 6) 4 [(0, .ref 0), (1, .int n)] (Nat.le_of_ble_eq_true rfl) (Nat.le_of_ble_eq_true rfl)).1
  obtain ⟨f4_0, rfl, rfl, rfl⟩ := hq9
  show am_G X (am_VV ad) (1, 6) 7 [(0, .ref 0), (1, .int n)] [] r h
  obtain ⟨⟨nA, mA⟩, lA⟩ := rf_in_n (a := 1) (b := 60) (by decide) (by decide) f4_0
  refine am_lsv (ls' := [(0, .ref 0), (1, .int (nI (rf_nat n)))]) (congrArg (fun z9 : Int32 => ([(0, .ref 0), (1, Value.int z9)] : List (Nat × Value))) (show n = (nI (rf_nat n)) from nA)) ?_
  refine am_aload_n (pc := 7) C dX11_hours_7 rfl ?_
  refine am_getR (pc := 8) (j := 132) C dX11_hours_8 f11_69 bn_0 sh_0 (rf_0_7 hR) ?_
  refine am_aload_n (pc := 11) C dX11_hours_11 rfl ?_
  refine am_getR (pc := 12) (j := 3) C dX11_hours_12 f11_27 bn_0 sh_0 (rf_0_1 hR) ?_
  refine am_getR (pc := 15) (j := 25) C dX11_hours_15 f11_177 bn_3 sh_3 (rf_3_2 hR) ?_
  refine am_callV (mc := 0) (ms := 0) (Y := mX4_keep) (pc := 18) (st := []) (As := [.ref 25]) (Q := (fun v9 r9 h9 => v9 = none ∧ am_rs r9 ∧ cl_Pa r9 h9 (rf_remO oc) w (rf_remA oc w ac) ∧ cl_f2 (h) h9)) C dX11_hours_18 k11_271 v_X4_keep rfl rfl bn_132 sh_132 ⟨by decide, rfl⟩ (by decide) (Nat.le_of_ble_eq_true rfl) (Nat.le_of_ble_eq_true rfl) (Nat.le_of_ble_eq_true rfl) (c_X4_keep hR w oc ac (show rf_I w from hV) (show cl_Sc (h) 25 w from hSc) (show rf_n (oc 7) 13 from hn7) (show cl_Pa r (h) oc w ac from hPa)) (fun v9 r18 g18 hq9 => ?_)
  obtain ⟨rfl, hR, P18, F18⟩ := hq9
  show am_G X (am_VV ad) (1, 6) 21 [(0, .ref 0), (1, .int (nI (rf_nat n)))] [] r18 g18
  have L18 := cl_Lo_eq (fun i a b => F18 i (by omega)) hLo
  have S18 := cl_Sc_eq (fun i a b => F18 i (by omega)) hSc
  refine am_aload_n (pc := 21) C dX11_hours_21 rfl ?_
  refine am_getR (pc := 22) (j := 3) C dX11_hours_22 f11_27 bn_0 sh_0 (rf_0_1 hR) ?_
  refine am_getR (pc := 25) (j := 25) C dX11_hours_25 f11_177 bn_3 sh_3 (rf_3_2 hR) ?_
  refine am_getI (pc := 28) C dX11_hours_28 f11_275 bn_25 sh_25 ?_
  refine am_top (show ((g18 25) 2) = (w 7) from S18.1.2.2.1) ?_
  refine am_istore_n (pc := 31) (ls' := [(0, .ref 0), (1, .int (nI (rf_nat n))), (2, .int (w 7))]) C dX11_hours_31 (by decide) rfl ?_
  refine am_iconstN (pc := 32) (k := 0) C dX11_hours_32 ?_
  refine am_istore_n (pc := 33) (ls' := [(0, .ref 0), (1, .int (nI (rf_nat n))), (2, .int (w 7)), (3, .int (nI 0))]) C dX11_hours_33 (by decide) rfl ?_
  have L34 : ∀ (j34 : Nat) (gk : am_H) (k : Nat), (hkj : k + j34 = rf_nat n) → (hSk : cl_Sc gk 25 (rf_hrs w k)) → (hFk : cl_fr g18 gk 23 17) → am_G X (am_VV ad) (1, 6) 34 [(0, .ref 0), (1, .int (nI (rf_nat n))), (2, .int (w 7)), (3, .int (nI k))] [] r18 gk := by
    intro j34
    induction j34 with
    | zero =>
      intro gk k hkj hSk hFk
      obtain ⟨Vk, Pk, Lwk⟩ := rf_hrs_ok hV hLw k
      obtain ⟨Ek, Bk⟩ := rf_hrs_es hV hB k (by omega)
      have Lk := cl_Lo_Es hV Ek (cl_Lo_eq (fun i a b => (hFk i (by omega)).trans (F18 i (by omega))) hLo)
      have Ak := cl_La_Es Ek (cl_La_eq (fun i a b => (hFk i (by omega)).trans (F18 i (by omega))) hA)
      refine am_iload_n (pc := 34) C dX11_hours_34 rfl ?_
      refine am_iload_n (pc := 35) C dX11_hours_35 rfl ?_
      refine am_icmp_geN (pc := 36) (tgt := 52) C dX11_hours_36 (by decide) (by omega) (by omega) (fun q36 => ?_) (fun q36 => ?_)
      · skip
        refine am_aload_n (pc := 52) C dX11_hours_52 rfl ?_
        refine am_getR (pc := 53) (j := 3) C dX11_hours_53 f11_27 bn_0 sh_0 (rf_0_1 hR) ?_
        refine am_getR (pc := 56) (j := 25) C dX11_hours_56 f11_177 bn_3 sh_3 (rf_3_2 hR) ?_
        refine am_getI (pc := 59) C dX11_hours_59 f11_275 bn_25 sh_25 ?_
        refine am_top (show ((gk 25) 2) = ((rf_hrs w k) 7) from hSk.1.2.2.1) ?_
        refine am_iload_n (pc := 62) C dX11_hours_62 rfl ?_
        refine am_isub (pc := 63) C dX11_hours_63 ?_
        have K9 : rf_c_hours w n = 0 := (show rf_c_hours w n = 0 from by simp only [rf_c_hours, rf_cb, f4_0, Bool.not_true, Bool.not_false, cond_true, cond_false])
        have A9 : rf_a_hours w n = (((rf_hrs w k) 7) - (w 7)) := (by rw [rf_a_hours, show rf_nat n = k by omega])
        exact am_iret T dX11_hours_64 rfl rfl (Nat.le_of_ble_eq_true rfl) (Nat.le_of_ble_eq_true rfl) ⟨K9, by rw [A9], ⟨fun _ => ⟨hR, (by rw [show rf_nat n = k by omega]; exact hSk), cl_Pa_eq (fun i a b => hFk i (by omega)) P18, (fun i h9 => (hFk i (by omega)).trans (F18 i (by omega)))⟩, fun z => absurd K9 z⟩⟩
      · skip
        exact absurd q36 (by omega)
    | succ j34 ih34 =>
      intro gk k hkj hSk hFk
      obtain ⟨Vk, Pk, Lwk⟩ := rf_hrs_ok hV hLw k
      obtain ⟨Ek, Bk⟩ := rf_hrs_es hV hB k (by omega)
      have Lk := cl_Lo_Es hV Ek (cl_Lo_eq (fun i a b => (hFk i (by omega)).trans (F18 i (by omega))) hLo)
      have Ak := cl_La_Es Ek (cl_La_eq (fun i a b => (hFk i (by omega)).trans (F18 i (by omega))) hA)
      refine am_iload_n (pc := 34) C dX11_hours_34 rfl ?_
      refine am_iload_n (pc := 35) C dX11_hours_35 rfl ?_
      refine am_icmp_geN (pc := 36) (tgt := 52) C dX11_hours_36 (by decide) (by omega) (by omega) (fun q36 => ?_) (fun q36 => ?_)
      · skip
        exact absurd q36 (by omega)
      · skip
        refine am_aload_n (pc := 39) C dX11_hours_39 rfl ?_
        refine am_getR (pc := 40) (j := 3) C dX11_hours_40 f11_27 bn_0 sh_0 (rf_0_1 hR) ?_
        refine am_callVvr (Y := mX10_passHour) (pc := 43) (st := []) (As := []) (PP := fun c9 => cl_Sc c9 25 (rf_hour (rf_hrs w k)) ∧ cl_fr (gk) c9 23 17) C dX11_hours_43 k11_278 v_X10_passHour rfl rfl bn_3 sh_3 ⟨by decide, rfl⟩ (by decide) (Nat.le_of_ble_eq_true rfl) (Nat.le_of_ble_eq_true rfl) (Nat.le_of_ble_eq_true rfl) (c_X10_passHour hR (rf_hrs w k) Vk Lk hSk (show rf_n ((rf_hrs w k) 7) 1073741824 from ⟨Bk.1, by have h9 := Bk.2; omega⟩) (show rf_Lw (rf_hrs w k) from Lwk) (show rf_Lk (rf_hrs w k) from (rf_Lk_Eq Pk hLk)) (show cl_La (gk) 17 (rf_hrs w k) from Ak)) (fun g43_2 hg43_2 => ?_)
        obtain ⟨S43, F43⟩ := hg43_2
        refine am_iincN (pc := 46) (ls' := [(0, .ref 0), (1, .int (nI (rf_nat n))), (2, .int (w 7)), (3, .int (nI (k + 1)))]) C dX11_hours_46 rfl (am_up1 _) (by decide) rfl ?_
        refine am_goto (pc := 49) (tgt := 34) C dX11_hours_49 (by decide) ?_
        exact ih34 g43_2 (k + 1) (by omega) S43 (fun i h9 => (F43 i (by omega)).trans (hFk i h9))
  exact L34 (rf_nat n) g18 0 (by omega) S18 (fun _ _ => rfl)

