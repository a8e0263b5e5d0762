/-! THE CONSTRUCTORS of the leaves: Lore, Law, Scene, World, Tape, Talk, Guess, WarText, LawText, Study -/
section NEWK1
theorem nx_sb {n : Nat} (h : n < 1000000) : n < am_SB := h
theorem nx_sbl {n : Nat} (h : n ≤ 1000000) : n ≤ am_SB := h
theorem nw_shs_sub {n k : Nat} {l l2 : List (Nat × Nat)} (hs : nw_shs n l2) (e : ∀ j, j < l.length → k + j < l2.length ∧ l2.getD (k + j) (9, 0) = l.getD j (9, 0)) : nw_shs (n + k) l := fun j hj => by
  rw [Nat.add_assoc, hs (k + j) (e j hj).1]
  exact (e j hj).2

def nk_X3_init (r : am_R) (q n : Nat) : am_R := am_up (am_up (am_up (am_up (am_up (am_up (am_up (am_up (am_up (am_up (am_up (am_up r q 4 (.ref n)) q 5 (.ref (n + 1))) q 6 (.ref (n + 2))) q 7 (.ref (n + 3))) q 8 (.ref (n + 4))) q 9 (.ref (n + 5))) q 10 (.ref (n + 6))) q 11 (.ref (n + 7))) q 12 (.ref (n + 8))) q 13 (.ref (n + 9))) q 14 (.ref (n + 10))) q 15 (.ref (n + 11))
def nl_X3_init : List (Nat × Nat) := [(1, 16), (1, 16), (1, 16), (1, 16), (1, 16), (1, 10), (1, 10), (1, 10), (1, 60), (1, 10), (1, 10), (1, 2)]
set_option maxHeartbeats 4000000 in
set_option maxRecDepth 100000 in
theorem nc_X3_init {ad : Nat → Nat} {r : am_R} {h : am_H} {q n : Nat} (fr : nw_fr r h n) (hq : q < n) (hb : n + 12 ≤ 1000) (sq : am_SH q = (0, 3)) (hs : nw_shs n nl_X3_init) : am_NM mX3_init 1 12 192 [.ref q] ad n (n + 12) am_SH r h (nw_Q (nk_X3_init r q n) h (n + 12)) := by
  refine am_NM.of (by decide +kernel) (Nat.le_of_ble_eq_true rfl) (fun X C hO T => ?_)
  show am_G X (ad, n, am_SH) (0, 0) 0 [(0, .ref q)] [] r h
  refine am_aload_n (pc := 0) C dX3_init_0 rfl ?_
  refine am_objInit (pc := 1) C dX3_init_1 (am_mem 217 (by decide +kernel) rfl) (by decide) (Nat.le_of_ble_eq_true rfl) ?_
  refine am_aload_n (pc := 4) C dX3_init_4 rfl ?_
  refine am_bipush (pc := 5) (v := nI 16) C dX3_init_5 (by decide) ?_
  refine nx_newa1 (pc := 7) (N := 16) (m := n + 1) (cz := (1, 16)) C dX3_init_7 fr (hs 0 (by decide)) (by decide +kernel) (by decide +kernel) (by decide +kernel) (nx_sb (by omega)) ⟨(nw_vbr (by omega)), trivial⟩ ⟨(nw_vbr (by omega)), trivial⟩ rfl rfl (Nat.le_of_ble_eq_true rfl) (Nat.le_of_ble_eq_true rfl) (fun ad1 o1 => ?_)
  have f1 : nw_fr r h (n + 1) := fr.mono (by omega)
  refine am_putRF (pc := 9) (ft := tyX3 4) C dX3_init_9 f3_9 (show q < n + 1 by omega) sq rfl rfl rfl (tyX3_ok 4 (by decide)) (fun _ => ⟨rfl, rfl⟩) ?_
  have f2 : nw_fr (am_up r q 4 (.ref n)) h (n + 1) := f1.pr (by omega) (by omega)
  refine am_aload_n (pc := 12) C dX3_init_12 rfl ?_
  refine am_bipush (pc := 13) (v := nI 16) C dX3_init_13 (by decide) ?_
  refine nx_newa1 (pc := 15) (N := 16) (m := n + 2) (cz := (2, 32)) C dX3_init_15 f2 (hs 1 (by decide)) (by decide +kernel) (by decide +kernel) (by decide +kernel) (nx_sb (by omega)) ⟨(nw_vbr (by omega)), trivial⟩ ⟨(nw_vbr (by omega)), trivial⟩ rfl rfl (Nat.le_of_ble_eq_true rfl) (Nat.le_of_ble_eq_true rfl) (fun ad2 o2 => ?_)
  have f3 : nw_fr (am_up r q 4 (.ref n)) h (n + 2) := f2.mono (by omega)
  have ok2 : nw_ok n (n + 2) ad ad2 := nw_ok_tr ⟨by omega, by omega⟩ o1 o2
  refine am_putRF (pc := 17) (ft := tyX3 5) C dX3_init_17 f3_15 (show q < n + 2 by omega) sq rfl rfl rfl (tyX3_ok 5 (by decide)) (fun _ => ⟨rfl, rfl⟩) ?_
  have f4 : nw_fr (am_up (am_up r q 4 (.ref n)) q 5 (.ref (n + 1))) h (n + 2) := f3.pr (by omega) (by omega)
  refine am_aload_n (pc := 20) C dX3_init_20 rfl ?_
  refine am_bipush (pc := 21) (v := nI 16) C dX3_init_21 (by decide) ?_
  refine nx_newa1 (pc := 23) (N := 16) (m := n + 3) (cz := (3, 48)) C dX3_init_23 f4 (hs 2 (by decide)) (by decide +kernel) (by decide +kernel) (by decide +kernel) (nx_sb (by omega)) ⟨(nw_vbr (by omega)), trivial⟩ ⟨(nw_vbr (by omega)), trivial⟩ rfl rfl (Nat.le_of_ble_eq_true rfl) (Nat.le_of_ble_eq_true rfl) (fun ad3 o3 => ?_)
  have f5 : nw_fr (am_up (am_up r q 4 (.ref n)) q 5 (.ref (n + 1))) h (n + 3) := f4.mono (by omega)
  have ok3 : nw_ok n (n + 3) ad ad3 := nw_ok_tr ⟨by omega, by omega⟩ ok2 o3
  refine am_putRF (pc := 25) (ft := tyX3 6) C dX3_init_25 f3_18 (show q < n + 3 by omega) sq rfl rfl rfl (tyX3_ok 6 (by decide)) (fun _ => ⟨rfl, rfl⟩) ?_
  have f6 : nw_fr (am_up (am_up (am_up r q 4 (.ref n)) q 5 (.ref (n + 1))) q 6 (.ref (n + 2))) h (n + 3) := f5.pr (by omega) (by omega)
  refine am_aload_n (pc := 28) C dX3_init_28 rfl ?_
  refine am_bipush (pc := 29) (v := nI 16) C dX3_init_29 (by decide) ?_
  refine nx_newa1 (pc := 31) (N := 16) (m := n + 4) (cz := (4, 64)) C dX3_init_31 f6 (hs 3 (by decide)) (by decide +kernel) (by decide +kernel) (by decide +kernel) (nx_sb (by omega)) ⟨(nw_vbr (by omega)), trivial⟩ ⟨(nw_vbr (by omega)), trivial⟩ rfl rfl (Nat.le_of_ble_eq_true rfl) (Nat.le_of_ble_eq_true rfl) (fun ad4 o4 => ?_)
  have f7 : nw_fr (am_up (am_up (am_up r q 4 (.ref n)) q 5 (.ref (n + 1))) q 6 (.ref (n + 2))) h (n + 4) := f6.mono (by omega)
  have ok4 : nw_ok n (n + 4) ad ad4 := nw_ok_tr ⟨by omega, by omega⟩ ok3 o4
  refine am_putRF (pc := 33) (ft := tyX3 7) C dX3_init_33 f3_21 (show q < n + 4 by omega) sq rfl rfl rfl (tyX3_ok 7 (by decide)) (fun _ => ⟨rfl, rfl⟩) ?_
  have f8 : nw_fr (am_up (am_up (am_up (am_up r q 4 (.ref n)) q 5 (.ref (n + 1))) q 6 (.ref (n + 2))) q 7 (.ref (n + 3))) h (n + 4) := f7.pr (by omega) (by omega)
  refine am_aload_n (pc := 36) C dX3_init_36 rfl ?_
  refine am_bipush (pc := 37) (v := nI 16) C dX3_init_37 (by decide) ?_
  refine nx_newa1 (pc := 39) (N := 16) (m := n + 5) (cz := (5, 80)) C dX3_init_39 f8 (hs 4 (by decide)) (by decide +kernel) (by decide +kernel) (by decide +kernel) (nx_sb (by omega)) ⟨(nw_vbr (by omega)), trivial⟩ ⟨(nw_vbr (by omega)), trivial⟩ rfl rfl (Nat.le_of_ble_eq_true rfl) (Nat.le_of_ble_eq_true rfl) (fun ad5 o5 => ?_)
  have f9 : nw_fr (am_up (am_up (am_up (am_up r q 4 (.ref n)) q 5 (.ref (n + 1))) q 6 (.ref (n + 2))) q 7 (.ref (n + 3))) h (n + 5) := f8.mono (by omega)
  have ok5 : nw_ok n (n + 5) ad ad5 := nw_ok_tr ⟨by omega, by omega⟩ ok4 o5
  refine am_putRF (pc := 41) (ft := tyX3 8) C dX3_init_41 f3_24 (show q < n + 5 by omega) sq rfl rfl rfl (tyX3_ok 8 (by decide)) (fun _ => ⟨rfl, rfl⟩) ?_
  have f10 : nw_fr (am_up (am_up (am_up (am_up (am_up r q 4 (.ref n)) q 5 (.ref (n + 1))) q 6 (.ref (n + 2))) q 7 (.ref (n + 3))) q 8 (.ref (n + 4))) h (n + 5) := f9.pr (by omega) (by omega)
  refine am_aload_n (pc := 44) C dX3_init_44 rfl ?_
  refine am_bipush (pc := 45) (v := nI 10) C dX3_init_45 (by decide) ?_
  refine nx_newa1 (pc := 47) (N := 10) (m := n + 6) (cz := (6, 90)) C dX3_init_47 f10 (hs 5 (by decide)) (by decide +kernel) (by decide +kernel) (by decide +kernel) (nx_sb (by omega)) ⟨(nw_vbr (by omega)), trivial⟩ ⟨(nw_vbr (by omega)), trivial⟩ rfl rfl (Nat.le_of_ble_eq_true rfl) (Nat.le_of_ble_eq_true rfl) (fun ad6 o6 => ?_)
  have f11 : nw_fr (am_up (am_up (am_up (am_up (am_up r q 4 (.ref n)) q 5 (.ref (n + 1))) q 6 (.ref (n + 2))) q 7 (.ref (n + 3))) q 8 (.ref (n + 4))) h (n + 6) := f10.mono (by omega)
  have ok6 : nw_ok n (n + 6) ad ad6 := nw_ok_tr ⟨by omega, by omega⟩ ok5 o6
  refine am_putRF (pc := 49) (ft := tyX3 9) C dX3_init_49 f3_27 (show q < n + 6 by omega) sq rfl rfl rfl (tyX3_ok 9 (by decide)) (fun _ => ⟨rfl, rfl⟩) ?_
  have f12 : nw_fr (am_up (am_up (am_up (am_up (am_up (am_up r q 4 (.ref n)) q 5 (.ref (n + 1))) q 6 (.ref (n + 2))) q 7 (.ref (n + 3))) q 8 (.ref (n + 4))) q 9 (.ref (n + 5))) h (n + 6) := f11.pr (by omega) (by omega)
  refine am_aload_n (pc := 52) C dX3_init_52 rfl ?_
  refine am_bipush (pc := 53) (v := nI 10) C dX3_init_53 (by decide) ?_
  refine nx_newa1 (pc := 55) (N := 10) (m := n + 7) (cz := (7, 100)) C dX3_init_55 f12 (hs 6 (by decide)) (by decide +kernel) (by decide +kernel) (by decide +kernel) (nx_sb (by omega)) ⟨(nw_vbr (by omega)), trivial⟩ ⟨(nw_vbr (by omega)), trivial⟩ rfl rfl (Nat.le_of_ble_eq_true rfl) (Nat.le_of_ble_eq_true rfl) (fun ad7 o7 => ?_)
  have f13 : nw_fr (am_up (am_up (am_up (am_up (am_up (am_up r q 4 (.ref n)) q 5 (.ref (n + 1))) q 6 (.ref (n + 2))) q 7 (.ref (n + 3))) q 8 (.ref (n + 4))) q 9 (.ref (n + 5))) h (n + 7) := f12.mono (by omega)
  have ok7 : nw_ok n (n + 7) ad ad7 := nw_ok_tr ⟨by omega, by omega⟩ ok6 o7
  refine am_putRF (pc := 57) (ft := tyX3 10) C dX3_init_57 f3_30 (show q < n + 7 by omega) sq rfl rfl rfl (tyX3_ok 10 (by decide)) (fun _ => ⟨rfl, rfl⟩) ?_
  have f14 : nw_fr (am_up (am_up (am_up (am_up (am_up (am_up (am_up r q 4 (.ref n)) q 5 (.ref (n + 1))) q 6 (.ref (n + 2))) q 7 (.ref (n + 3))) q 8 (.ref (n + 4))) q 9 (.ref (n + 5))) q 10 (.ref (n + 6))) h (n + 7) := f13.pr (by omega) (by omega)
  refine am_aload_n (pc := 60) C dX3_init_60 rfl ?_
  refine am_bipush (pc := 61) (v := nI 10) C dX3_init_61 (by decide) ?_
  refine nx_newa1 (pc := 63) (N := 10) (m := n + 8) (cz := (8, 110)) C dX3_init_63 f14 (hs 7 (by decide)) (by decide +kernel) (by decide +kernel) (by decide +kernel) (nx_sb (by omega)) ⟨(nw_vbr (by omega)), trivial⟩ ⟨(nw_vbr (by omega)), trivial⟩ rfl rfl (Nat.le_of_ble_eq_true rfl) (Nat.le_of_ble_eq_true rfl) (fun ad8 o8 => ?_)
  have f15 : nw_fr (am_up (am_up (am_up (am_up (am_up (am_up (am_up r q 4 (.ref n)) q 5 (.ref (n + 1))) q 6 (.ref (n + 2))) q 7 (.ref (n + 3))) q 8 (.ref (n + 4))) q 9 (.ref (n + 5))) q 10 (.ref (n + 6))) h (n + 8) := f14.mono (by omega)
  have ok8 : nw_ok n (n + 8) ad ad8 := nw_ok_tr ⟨by omega, by omega⟩ ok7 o8
  refine am_putRF (pc := 65) (ft := tyX3 11) C dX3_init_65 f3_33 (show q < n + 8 by omega) sq rfl rfl rfl (tyX3_ok 11 (by decide)) (fun _ => ⟨rfl, rfl⟩) ?_
  have f16 : nw_fr (am_up (am_up (am_up (am_up (am_up (am_up (am_up (am_up r q 4 (.ref n)) q 5 (.ref (n + 1))) q 6 (.ref (n + 2))) q 7 (.ref (n + 3))) q 8 (.ref (n + 4))) q 9 (.ref (n + 5))) q 10 (.ref (n + 6))) q 11 (.ref (n + 7))) h (n + 8) := f15.pr (by omega) (by omega)
  refine am_aload_n (pc := 68) C dX3_init_68 rfl ?_
  refine am_bipush (pc := 69) (v := nI 60) C dX3_init_69 (by decide) ?_
  refine nx_newa1 (pc := 71) (N := 60) (m := n + 9) (cz := (9, 170)) C dX3_init_71 f16 (hs 8 (by decide)) (by decide +kernel) (by decide +kernel) (by decide +kernel) (nx_sb (by omega)) ⟨(nw_vbr (by omega)), trivial⟩ ⟨(nw_vbr (by omega)), trivial⟩ rfl rfl (Nat.le_of_ble_eq_true rfl) (Nat.le_of_ble_eq_true rfl) (fun ad9 o9 => ?_)
  have f17 : nw_fr (am_up (am_up (am_up (am_up (am_up (am_up (am_up (am_up r q 4 (.ref n)) q 5 (.ref (n + 1))) q 6 (.ref (n + 2))) q 7 (.ref (n + 3))) q 8 (.ref (n + 4))) q 9 (.ref (n + 5))) q 10 (.ref (n + 6))) q 11 (.ref (n + 7))) h (n + 9) := f16.mono (by omega)
  have ok9 : nw_ok n (n + 9) ad ad9 := nw_ok_tr ⟨by omega, by omega⟩ ok8 o9
  refine am_putRF (pc := 73) (ft := tyX3 12) C dX3_init_73 f3_36 (show q < n + 9 by omega) sq rfl rfl rfl (tyX3_ok 12 (by decide)) (fun _ => ⟨rfl, rfl⟩) ?_
  have f18 : nw_fr (am_up (am_up (am_up (am_up (am_up (am_up (am_up (am_up (am_up r q 4 (.ref n)) q 5 (.ref (n + 1))) q 6 (.ref (n + 2))) q 7 (.ref (n + 3))) q 8 (.ref (n + 4))) q 9 (.ref (n + 5))) q 10 (.ref (n + 6))) q 11 (.ref (n + 7))) q 12 (.ref (n + 8))) h (n + 9) := f17.pr (by omega) (by omega)
  refine am_aload_n (pc := 76) C dX3_init_76 rfl ?_
  refine am_bipush (pc := 77) (v := nI 10) C dX3_init_77 (by decide) ?_
  refine nx_newa1 (pc := 79) (N := 10) (m := n + 10) (cz := (10, 180)) C dX3_init_79 f18 (hs 9 (by decide)) (by decide +kernel) (by decide +kernel) (by decide +kernel) (nx_sb (by omega)) ⟨(nw_vbr (by omega)), trivial⟩ ⟨(nw_vbr (by omega)), trivial⟩ rfl rfl (Nat.le_of_ble_eq_true rfl) (Nat.le_of_ble_eq_true rfl) (fun ad10 o10 => ?_)
  have f19 : nw_fr (am_up (am_up (am_up (am_up (am_up (am_up (am_up (am_up (am_up r q 4 (.ref n)) q 5 (.ref (n + 1))) q 6 (.ref (n + 2))) q 7 (.ref (n + 3))) q 8 (.ref (n + 4))) q 9 (.ref (n + 5))) q 10 (.ref (n + 6))) q 11 (.ref (n + 7))) q 12 (.ref (n + 8))) h (n + 10) := f18.mono (by omega)
  have ok10 : nw_ok n (n + 10) ad ad10 := nw_ok_tr ⟨by omega, by omega⟩ ok9 o10
  refine am_putRF (pc := 81) (ft := tyX3 13) C dX3_init_81 f3_39 (show q < n + 10 by omega) sq rfl rfl rfl (tyX3_ok 13 (by decide)) (fun _ => ⟨rfl, rfl⟩) ?_
  have f20 : nw_fr (am_up (am_up (am_up (am_up (am_up (am_up (am_up (am_up (am_up (am_up r q 4 (.ref n)) q 5 (.ref (n + 1))) q 6 (.ref (n + 2))) q 7 (.ref (n + 3))) q 8 (.ref (n + 4))) q 9 (.ref (n + 5))) q 10 (.ref (n + 6))) q 11 (.ref (n + 7))) q 12 (.ref (n + 8))) q 13 (.ref (n + 9))) h (n + 10) := f19.pr (by omega) (by omega)
  refine am_aload_n (pc := 84) C dX3_init_84 rfl ?_
  refine am_bipush (pc := 85) (v := nI 10) C dX3_init_85 (by decide) ?_
  refine nx_newa1 (pc := 87) (N := 10) (m := n + 11) (cz := (11, 190)) C dX3_init_87 f20 (hs 10 (by decide)) (by decide +kernel) (by decide +kernel) (by decide +kernel) (nx_sb (by omega)) ⟨(nw_vbr (by omega)), trivial⟩ ⟨(nw_vbr (by omega)), trivial⟩ rfl rfl (Nat.le_of_ble_eq_true rfl) (Nat.le_of_ble_eq_true rfl) (fun ad11 o11 => ?_)
  have f21 : nw_fr (am_up (am_up (am_up (am_up (am_up (am_up (am_up (am_up (am_up (am_up r q 4 (.ref n)) q 5 (.ref (n + 1))) q 6 (.ref (n + 2))) q 7 (.ref (n + 3))) q 8 (.ref (n + 4))) q 9 (.ref (n + 5))) q 10 (.ref (n + 6))) q 11 (.ref (n + 7))) q 12 (.ref (n + 8))) q 13 (.ref (n + 9))) h (n + 11) := f20.mono (by omega)
  have ok11 : nw_ok n (n + 11) ad ad11 := nw_ok_tr ⟨by omega, by omega⟩ ok10 o11
  refine am_putRF (pc := 89) (ft := tyX3 14) C dX3_init_89 f3_42 (show q < n + 11 by omega) sq rfl rfl rfl (tyX3_ok 14 (by decide)) (fun _ => ⟨rfl, rfl⟩) ?_
  have f22 : nw_fr (am_up (am_up (am_up (am_up (am_up (am_up (am_up (am_up (am_up (am_up (am_up r q 4 (.ref n)) q 5 (.ref (n + 1))) q 6 (.ref (n + 2))) q 7 (.ref (n + 3))) q 8 (.ref (n + 4))) q 9 (.ref (n + 5))) q 10 (.ref (n + 6))) q 11 (.ref (n + 7))) q 12 (.ref (n + 8))) q 13 (.ref (n + 9))) q 14 (.ref (n + 10))) h (n + 11) := f21.pr (by omega) (by omega)
  refine am_aload_n (pc := 92) C dX3_init_92 rfl ?_
  refine am_iconstN (pc := 93) (k := 2) C dX3_init_93 ?_
  refine nx_newa1 (pc := 94) (N := 2) (m := n + 12) (cz := (12, 192)) C dX3_init_94 f22 (hs 11 (by decide)) (by decide +kernel) (by decide +kernel) (by decide +kernel) (nx_sb (by omega)) ⟨(nw_vbr (by omega)), trivial⟩ ⟨(nw_vbr (by omega)), trivial⟩ rfl rfl (Nat.le_of_ble_eq_true rfl) (Nat.le_of_ble_eq_true rfl) (fun ad12 o12 => ?_)
  have f23 : nw_fr (am_up (am_up (am_up (am_up (am_up (am_up (am_up (am_up (am_up (am_up (am_up r q 4 (.ref n)) q 5 (.ref (n + 1))) q 6 (.ref (n + 2))) q 7 (.ref (n + 3))) q 8 (.ref (n + 4))) q 9 (.ref (n + 5))) q 10 (.ref (n + 6))) q 11 (.ref (n + 7))) q 12 (.ref (n + 8))) q 13 (.ref (n + 9))) q 14 (.ref (n + 10))) h (n + 12) := f22.mono (by omega)
  have ok12 : nw_ok n (n + 12) ad ad12 := nw_ok_tr ⟨by omega, by omega⟩ ok11 o12
  refine am_putRF (pc := 96) (ft := tyX3 15) C dX3_init_96 f3_45 (show q < n + 12 by omega) sq rfl rfl rfl (tyX3_ok 15 (by decide)) (fun _ => ⟨rfl, rfl⟩) ?_
  have f24 : nw_fr (am_up (am_up (am_up (am_up (am_up (am_up (am_up (am_up (am_up (am_up (am_up (am_up r q 4 (.ref n)) q 5 (.ref (n + 1))) q 6 (.ref (n + 2))) q 7 (.ref (n + 3))) q 8 (.ref (n + 4))) q 9 (.ref (n + 5))) q 10 (.ref (n + 6))) q 11 (.ref (n + 7))) q 12 (.ref (n + 8))) q 13 (.ref (n + 9))) q 14 (.ref (n + 10))) q 15 (.ref (n + 11))) h (n + 12) := f23.pr (by omega) (by omega)
  exact am_nret T ok12 dX3_init_99 rfl (Nat.le_of_ble_eq_true rfl) (Nat.le_of_ble_eq_true rfl) ⟨rfl, rfl, f24⟩

def nk_X1_init (r : am_R) (q n : Nat) : am_R := am_up (am_up (am_up (am_up (am_up (am_up (am_up r q 2 (.ref n)) q 3 (.ref (n + 1))) q 4 (.ref (n + 2))) q 5 (.ref (n + 3))) q 6 (.ref (n + 4))) q 7 (.ref (n + 5))) q 8 (.ref (n + 6))
def nh_X1_init (h : am_H) (q n : Nat) : am_H := am_up h q 0 (-1)
def nl_X1_init : List (Nat × Nat) := [(1, 12), (1, 12), (1, 12), (1, 12), (1, 400), (1, 8), (1, 40)]
set_option maxHeartbeats 4000000 in
set_option maxRecDepth 100000 in
theorem nc_X1_init {ad : Nat → Nat} {r : am_R} {h : am_H} {q n : Nat} (fr : nw_fr r h n) (hq : q < n) (hb : n + 7 ≤ 1000) (sq : am_SH q = (0, 1)) (hs : nw_shs n nl_X1_init) : am_NM mX1_init 1 7 496 [.ref q] ad n (n + 7) am_SH r h (nw_Q (nk_X1_init r q n) (nh_X1_init h q n) (n + 7)) := by
  refine am_NM.of (by decide +kernel) (Nat.le_of_ble_eq_true rfl) (fun X C hO T => ?_)
  show am_G X (ad, n, am_SH) (0, 0) 0 [(0, .ref q)] [] r h
  refine am_aload_n (pc := 0) C dX1_init_0 rfl ?_
  refine am_objInit (pc := 1) C dX1_init_1 (am_mem 320 (by decide +kernel) rfl) (by decide) (Nat.le_of_ble_eq_true rfl) ?_
  refine am_aload_n (pc := 4) C dX1_init_4 rfl ?_
  refine am_iconst (pc := 5) (v := (-1)) C dX1_init_5 rfl ?_
  refine am_putI (pc := 6) C dX1_init_6 f1_9 (show q < n by omega) sq rfl rfl ?_
  have f1 : nw_fr r (am_up h q 0 (-1)) (n) := fr.ph (by omega)
  refine am_aload_n (pc := 9) C dX1_init_9 rfl ?_
  refine am_bipush (pc := 10) (v := nI 12) C dX1_init_10 (by decide) ?_
  refine nx_newa1 (pc := 12) (N := 12) (m := n + 1) (cz := (1, 12)) C dX1_init_12 f1 (hs 0 (by decide)) (by decide +kernel) (by decide +kernel) (by decide +kernel) (nx_sb (by omega)) ⟨(nw_vbr (by omega)), trivial⟩ ⟨(nw_vbr (by omega)), trivial⟩ rfl rfl (Nat.le_of_ble_eq_true rfl) (Nat.le_of_ble_eq_true rfl) (fun ad1 o1 => ?_)
  have f2 : nw_fr r (am_up h q 0 (-1)) (n + 1) := f1.mono (by omega)
  refine am_putRF (pc := 14) (ft := tyX1 2) C dX1_init_14 f1_15 (show q < n + 1 by omega) sq rfl rfl rfl (tyX1_ok 2 (by decide)) (fun _ => ⟨rfl, rfl⟩) ?_
  have f3 : nw_fr (am_up r q 2 (.ref n)) (am_up h q 0 (-1)) (n + 1) := f2.pr (by omega) (by omega)
  refine am_aload_n (pc := 17) C dX1_init_17 rfl ?_
  refine am_bipush (pc := 18) (v := nI 12) C dX1_init_18 (by decide) ?_
  refine nx_newa1 (pc := 20) (N := 12) (m := n + 2) (cz := (2, 24)) C dX1_init_20 f3 (hs 1 (by decide)) (by decide +kernel) (by decide +kernel) (by decide +kernel) (nx_sb (by omega)) ⟨(nw_vbr (by omega)), trivial⟩ ⟨(nw_vbr (by omega)), trivial⟩ rfl rfl (Nat.le_of_ble_eq_true rfl) (Nat.le_of_ble_eq_true rfl) (fun ad2 o2 => ?_)
  have f4 : nw_fr (am_up r q 2 (.ref n)) (am_up h q 0 (-1)) (n + 2) := f3.mono (by omega)
  have ok2 : nw_ok n (n + 2) ad ad2 := nw_ok_tr ⟨by omega, by omega⟩ o1 o2
  refine am_putRF (pc := 22) (ft := tyX1 3) C dX1_init_22 f1_19 (show q < n + 2 by omega) sq rfl rfl rfl (tyX1_ok 3 (by decide)) (fun _ => ⟨rfl, rfl⟩) ?_
  have f5 : nw_fr (am_up (am_up r q 2 (.ref n)) q 3 (.ref (n + 1))) (am_up h q 0 (-1)) (n + 2) := f4.pr (by omega) (by omega)
  refine am_aload_n (pc := 25) C dX1_init_25 rfl ?_
  refine am_bipush (pc := 26) (v := nI 12) C dX1_init_26 (by decide) ?_
  refine nx_newa1 (pc := 28) (N := 12) (m := n + 3) (cz := (3, 36)) C dX1_init_28 f5 (hs 2 (by decide)) (by decide +kernel) (by decide +kernel) (by decide +kernel) (nx_sb (by omega)) ⟨(nw_vbr (by omega)), trivial⟩ ⟨(nw_vbr (by omega)), trivial⟩ rfl rfl (Nat.le_of_ble_eq_true rfl) (Nat.le_of_ble_eq_true rfl) (fun ad3 o3 => ?_)
  have f6 : nw_fr (am_up (am_up r q 2 (.ref n)) q 3 (.ref (n + 1))) (am_up h q 0 (-1)) (n + 3) := f5.mono (by omega)
  have ok3 : nw_ok n (n + 3) ad ad3 := nw_ok_tr ⟨by omega, by omega⟩ ok2 o3
  refine am_putRF (pc := 30) (ft := tyX1 4) C dX1_init_30 f1_22 (show q < n + 3 by omega) sq rfl rfl rfl (tyX1_ok 4 (by decide)) (fun _ => ⟨rfl, rfl⟩) ?_
  have f7 : nw_fr (am_up (am_up (am_up r q 2 (.ref n)) q 3 (.ref (n + 1))) q 4 (.ref (n + 2))) (am_up h q 0 (-1)) (n + 3) := f6.pr (by omega) (by omega)
  refine am_aload_n (pc := 33) C dX1_init_33 rfl ?_
  refine am_bipush (pc := 34) (v := nI 12) C dX1_init_34 (by decide) ?_
  refine nx_newa1 (pc := 36) (N := 12) (m := n + 4) (cz := (4, 48)) C dX1_init_36 f7 (hs 3 (by decide)) (by decide +kernel) (by decide +kernel) (by decide +kernel) (nx_sb (by omega)) ⟨(nw_vbr (by omega)), trivial⟩ ⟨(nw_vbr (by omega)), trivial⟩ rfl rfl (Nat.le_of_ble_eq_true rfl) (Nat.le_of_ble_eq_true rfl) (fun ad4 o4 => ?_)
  have f8 : nw_fr (am_up (am_up (am_up r q 2 (.ref n)) q 3 (.ref (n + 1))) q 4 (.ref (n + 2))) (am_up h q 0 (-1)) (n + 4) := f7.mono (by omega)
  have ok4 : nw_ok n (n + 4) ad ad4 := nw_ok_tr ⟨by omega, by omega⟩ ok3 o4
  refine am_putRF (pc := 38) (ft := tyX1 5) C dX1_init_38 f1_25 (show q < n + 4 by omega) sq rfl rfl rfl (tyX1_ok 5 (by decide)) (fun _ => ⟨rfl, rfl⟩) ?_
  have f9 : nw_fr (am_up (am_up (am_up (am_up r q 2 (.ref n)) q 3 (.ref (n + 1))) q 4 (.ref (n + 2))) q 5 (.ref (n + 3))) (am_up h q 0 (-1)) (n + 4) := f8.pr (by omega) (by omega)
  refine am_aload_n (pc := 41) C dX1_init_41 rfl ?_
  refine am_sipush (pc := 42) (v := nI 400) C dX1_init_42 (by decide) ?_
  refine nx_newa1 (pc := 45) (N := 400) (m := n + 5) (cz := (5, 448)) C dX1_init_45 f9 (hs 4 (by decide)) (by decide +kernel) (by decide +kernel) (by decide +kernel) (nx_sb (by omega)) ⟨(nw_vbr (by omega)), trivial⟩ ⟨(nw_vbr (by omega)), trivial⟩ rfl rfl (Nat.le_of_ble_eq_true rfl) (Nat.le_of_ble_eq_true rfl) (fun ad5 o5 => ?_)
  have f10 : nw_fr (am_up (am_up (am_up (am_up r q 2 (.ref n)) q 3 (.ref (n + 1))) q 4 (.ref (n + 2))) q 5 (.ref (n + 3))) (am_up h q 0 (-1)) (n + 5) := f9.mono (by omega)
  have ok5 : nw_ok n (n + 5) ad ad5 := nw_ok_tr ⟨by omega, by omega⟩ ok4 o5
  refine am_putRF (pc := 47) (ft := tyX1 6) C dX1_init_47 f1_28 (show q < n + 5 by omega) sq rfl rfl rfl (tyX1_ok 6 (by decide)) (fun _ => ⟨rfl, rfl⟩) ?_
  have f11 : nw_fr (am_up (am_up (am_up (am_up (am_up r q 2 (.ref n)) q 3 (.ref (n + 1))) q 4 (.ref (n + 2))) q 5 (.ref (n + 3))) q 6 (.ref (n + 4))) (am_up h q 0 (-1)) (n + 5) := f10.pr (by omega) (by omega)
  refine am_aload_n (pc := 50) C dX1_init_50 rfl ?_
  refine am_bipush (pc := 51) (v := nI 8) C dX1_init_51 (by decide) ?_
  refine nx_newa1 (pc := 53) (N := 8) (m := n + 6) (cz := (6, 456)) C dX1_init_53 f11 (hs 5 (by decide)) (by decide +kernel) (by decide +kernel) (by decide +kernel) (nx_sb (by omega)) ⟨(nw_vbr (by omega)), trivial⟩ ⟨(nw_vbr (by omega)), trivial⟩ rfl rfl (Nat.le_of_ble_eq_true rfl) (Nat.le_of_ble_eq_true rfl) (fun ad6 o6 => ?_)
  have f12 : nw_fr (am_up (am_up (am_up (am_up (am_up r q 2 (.ref n)) q 3 (.ref (n + 1))) q 4 (.ref (n + 2))) q 5 (.ref (n + 3))) q 6 (.ref (n + 4))) (am_up h q 0 (-1)) (n + 6) := f11.mono (by omega)
  have ok6 : nw_ok n (n + 6) ad ad6 := nw_ok_tr ⟨by omega, by omega⟩ ok5 o6
  refine am_putRF (pc := 55) (ft := tyX1 7) C dX1_init_55 f1_31 (show q < n + 6 by omega) sq rfl rfl rfl (tyX1_ok 7 (by decide)) (fun _ => ⟨rfl, rfl⟩) ?_
  have f13 : nw_fr (am_up (am_up (am_up (am_up (am_up (am_up r q 2 (.ref n)) q 3 (.ref (n + 1))) q 4 (.ref (n + 2))) q 5 (.ref (n + 3))) q 6 (.ref (n + 4))) q 7 (.ref (n + 5))) (am_up h q 0 (-1)) (n + 6) := f12.pr (by omega) (by omega)
  refine am_aload_n (pc := 58) C dX1_init_58 rfl ?_
  refine am_bipush (pc := 59) (v := nI 40) C dX1_init_59 (by decide) ?_
  refine nx_newa1 (pc := 61) (N := 40) (m := n + 7) (cz := (7, 496)) C dX1_init_61 f13 (hs 6 (by decide)) (by decide +kernel) (by decide +kernel) (by decide +kernel) (nx_sb (by omega)) ⟨(nw_vbr (by omega)), trivial⟩ ⟨(nw_vbr (by omega)), trivial⟩ rfl rfl (Nat.le_of_ble_eq_true rfl) (Nat.le_of_ble_eq_true rfl) (fun ad7 o7 => ?_)
  have f14 : nw_fr (am_up (am_up (am_up (am_up (am_up (am_up r q 2 (.ref n)) q 3 (.ref (n + 1))) q 4 (.ref (n + 2))) q 5 (.ref (n + 3))) q 6 (.ref (n + 4))) q 7 (.ref (n + 5))) (am_up h q 0 (-1)) (n + 7) := f13.mono (by omega)
  have ok7 : nw_ok n (n + 7) ad ad7 := nw_ok_tr ⟨by omega, by omega⟩ ok6 o7
  refine am_putRF (pc := 63) (ft := tyX1 8) C dX1_init_63 f1_34 (show q < n + 7 by omega) sq rfl rfl rfl (tyX1_ok 8 (by decide)) (fun _ => ⟨rfl, rfl⟩) ?_
  have f15 : nw_fr (am_up (am_up (am_up (am_up (am_up (am_up (am_up r q 2 (.ref n)) q 3 (.ref (n + 1))) q 4 (.ref (n + 2))) q 5 (.ref (n + 3))) q 6 (.ref (n + 4))) q 7 (.ref (n + 5))) q 8 (.ref (n + 6))) (am_up h q 0 (-1)) (n + 7) := f14.pr (by omega) (by omega)
  exact am_nret T ok7 dX1_init_66 rfl (Nat.le_of_ble_eq_true rfl) (Nat.le_of_ble_eq_true rfl) ⟨rfl, rfl, f15⟩

def nk_X5_init (r : am_R) (q n : Nat) : am_R := am_up (am_up (am_up (am_up (am_up (am_up (am_up (am_up (am_up (am_up (am_up (am_up (am_up (am_up r q 5 (.ref n)) q 6 (.ref (n + 1))) q 7 (.ref (n + 2))) q 8 (.ref (n + 3))) q 9 (.ref (n + 4))) q 10 (.ref (n + 5))) q 11 (.ref (n + 6))) q 12 (.ref (n + 7))) q 13 (.ref (n + 8))) q 14 (.ref (n + 9))) q 15 (.ref (n + 10))) q 16 (.ref (n + 11))) q 17 (.ref (n + 12))) q 18 (.ref (n + 13))
def nh_X5_init (h : am_H) (q n : Nat) : am_H := am_up h q 1 (nI 1)
def nl_X5_init : List (Nat × Nat) := [(1, 10), (1, 10), (1, 10), (1, 10), (1, 10), (1, 120), (1, 40), (1, 40), (1, 40), (1, 60), (1, 60), (1, 60), (1, 60), (1, 60)]
set_option maxHeartbeats 4000000 in
set_option maxRecDepth 100000 in
theorem nc_X5_init {ad : Nat → Nat} {r : am_R} {h : am_H} {q n : Nat} (fr : nw_fr r h n) (hq : q < n) (hb : n + 14 ≤ 1000) (sq : am_SH q = (0, 5)) (hs : nw_shs n nl_X5_init) : am_NM mX5_init 1 14 590 [.ref q] ad n (n + 14) am_SH r h (nw_Q (nk_X5_init r q n) (nh_X5_init h q n) (n + 14)) := by
  refine am_NM.of (by decide +kernel) (Nat.le_of_ble_eq_true rfl) (fun X C hO T => ?_)
  show am_G X (ad, n, am_SH) (0, 0) 0 [(0, .ref q)] [] r h
  refine am_aload_n (pc := 0) C dX5_init_0 rfl ?_
  refine am_objInit (pc := 1) C dX5_init_1 (am_mem 362 (by decide +kernel) rfl) (by decide) (Nat.le_of_ble_eq_true rfl) ?_
  refine am_aload_n (pc := 4) C dX5_init_4 rfl ?_
  refine am_iconstN (pc := 5) (k := 1) C dX5_init_5 ?_
  refine am_putI (pc := 6) C dX5_init_6 f5_9 (show q < n by omega) sq rfl rfl ?_
  have f1 : nw_fr r (am_up h q 1 (nI 1)) (n) := fr.ph (by omega)
  refine am_aload_n (pc := 9) C dX5_init_9 rfl ?_
  refine am_bipush (pc := 10) (v := nI 10) C dX5_init_10 (by decide) ?_
  refine nx_newa1 (pc := 12) (N := 10) (m := n + 1) (cz := (1, 10)) C dX5_init_12 f1 (hs 0 (by decide)) (by decide +kernel) (by decide +kernel) (by decide +kernel) (nx_sb (by omega)) ⟨(nw_vbr (by omega)), trivial⟩ ⟨(nw_vbr (by omega)), trivial⟩ rfl rfl (Nat.le_of_ble_eq_true rfl) (Nat.le_of_ble_eq_true rfl) (fun ad1 o1 => ?_)
  have f2 : nw_fr r (am_up h q 1 (nI 1)) (n + 1) := f1.mono (by omega)
  refine am_putRF (pc := 14) (ft := tyX5 5) C dX5_init_14 f5_15 (show q < n + 1 by omega) sq rfl rfl rfl (tyX5_ok 5 (by decide)) (fun _ => ⟨rfl, rfl⟩) ?_
  have f3 : nw_fr (am_up r q 5 (.ref n)) (am_up h q 1 (nI 1)) (n + 1) := f2.pr (by omega) (by omega)
  refine am_aload_n (pc := 17) C dX5_init_17 rfl ?_
  refine am_bipush (pc := 18) (v := nI 10) C dX5_init_18 (by decide) ?_
  refine nx_newa1 (pc := 20) (N := 10) (m := n + 2) (cz := (2, 20)) C dX5_init_20 f3 (hs 1 (by decide)) (by decide +kernel) (by decide +kernel) (by decide +kernel) (nx_sb (by omega)) ⟨(nw_vbr (by omega)), trivial⟩ ⟨(nw_vbr (by omega)), trivial⟩ rfl rfl (Nat.le_of_ble_eq_true rfl) (Nat.le_of_ble_eq_true rfl) (fun ad2 o2 => ?_)
  have f4 : nw_fr (am_up r q 5 (.ref n)) (am_up h q 1 (nI 1)) (n + 2) := f3.mono (by omega)
  have ok2 : nw_ok n (n + 2) ad ad2 := nw_ok_tr ⟨by omega, by omega⟩ o1 o2
  refine am_putRF (pc := 22) (ft := tyX5 6) C dX5_init_22 f5_19 (show q < n + 2 by omega) sq rfl rfl rfl (tyX5_ok 6 (by decide)) (fun _ => ⟨rfl, rfl⟩) ?_
  have f5 : nw_fr (am_up (am_up r q 5 (.ref n)) q 6 (.ref (n + 1))) (am_up h q 1 (nI 1)) (n + 2) := f4.pr (by omega) (by omega)
  refine am_aload_n (pc := 25) C dX5_init_25 rfl ?_
  refine am_bipush (pc := 26) (v := nI 10) C dX5_init_26 (by decide) ?_
  refine nx_newa1 (pc := 28) (N := 10) (m := n + 3) (cz := (3, 30)) C dX5_init_28 f5 (hs 2 (by decide)) (by decide +kernel) (by decide +kernel) (by decide +kernel) (nx_sb (by omega)) ⟨(nw_vbr (by omega)), trivial⟩ ⟨(nw_vbr (by omega)), trivial⟩ rfl rfl (Nat.le_of_ble_eq_true rfl) (Nat.le_of_ble_eq_true rfl) (fun ad3 o3 => ?_)
  have f6 : nw_fr (am_up (am_up r q 5 (.ref n)) q 6 (.ref (n + 1))) (am_up h q 1 (nI 1)) (n + 3) := f5.mono (by omega)
  have ok3 : nw_ok n (n + 3) ad ad3 := nw_ok_tr ⟨by omega, by omega⟩ ok2 o3
  refine am_putRF (pc := 30) (ft := tyX5 7) C dX5_init_30 f5_22 (show q < n + 3 by omega) sq rfl rfl rfl (tyX5_ok 7 (by decide)) (fun _ => ⟨rfl, rfl⟩) ?_
  have f7 : nw_fr (am_up (am_up (am_up r q 5 (.ref n)) q 6 (.ref (n + 1))) q 7 (.ref (n + 2))) (am_up h q 1 (nI 1)) (n + 3) := f6.pr (by omega) (by omega)
  refine am_aload_n (pc := 33) C dX5_init_33 rfl ?_
  refine am_bipush (pc := 34) (v := nI 10) C dX5_init_34 (by decide) ?_
  refine nx_newa1 (pc := 36) (N := 10) (m := n + 4) (cz := (4, 40)) C dX5_init_36 f7 (hs 3 (by decide)) (by decide +kernel) (by decide +kernel) (by decide +kernel) (nx_sb (by omega)) ⟨(nw_vbr (by omega)), trivial⟩ ⟨(nw_vbr (by omega)), trivial⟩ rfl rfl (Nat.le_of_ble_eq_true rfl) (Nat.le_of_ble_eq_true rfl) (fun ad4 o4 => ?_)
  have f8 : nw_fr (am_up (am_up (am_up r q 5 (.ref n)) q 6 (.ref (n + 1))) q 7 (.ref (n + 2))) (am_up h q 1 (nI 1)) (n + 4) := f7.mono (by omega)
  have ok4 : nw_ok n (n + 4) ad ad4 := nw_ok_tr ⟨by omega, by omega⟩ ok3 o4
  refine am_putRF (pc := 38) (ft := tyX5 8) C dX5_init_38 f5_25 (show q < n + 4 by omega) sq rfl rfl rfl (tyX5_ok 8 (by decide)) (fun _ => ⟨rfl, rfl⟩) ?_
  have f9 : nw_fr (am_up (am_up (am_up (am_up r q 5 (.ref n)) q 6 (.ref (n + 1))) q 7 (.ref (n + 2))) q 8 (.ref (n + 3))) (am_up h q 1 (nI 1)) (n + 4) := f8.pr (by omega) (by omega)
  refine am_aload_n (pc := 41) C dX5_init_41 rfl ?_
  refine am_bipush (pc := 42) (v := nI 10) C dX5_init_42 (by decide) ?_
  refine nx_newa1 (pc := 44) (N := 10) (m := n + 5) (cz := (5, 50)) C dX5_init_44 f9 (hs 4 (by decide)) (by decide +kernel) (by decide +kernel) (by decide +kernel) (nx_sb (by omega)) ⟨(nw_vbr (by omega)), trivial⟩ ⟨(nw_vbr (by omega)), trivial⟩ rfl rfl (Nat.le_of_ble_eq_true rfl) (Nat.le_of_ble_eq_true rfl) (fun ad5 o5 => ?_)
  have f10 : nw_fr (am_up (am_up (am_up (am_up r q 5 (.ref n)) q 6 (.ref (n + 1))) q 7 (.ref (n + 2))) q 8 (.ref (n + 3))) (am_up h q 1 (nI 1)) (n + 5) := f9.mono (by omega)
  have ok5 : nw_ok n (n + 5) ad ad5 := nw_ok_tr ⟨by omega, by omega⟩ ok4 o5
  refine am_putRF (pc := 46) (ft := tyX5 9) C dX5_init_46 f5_28 (show q < n + 5 by omega) sq rfl rfl rfl (tyX5_ok 9 (by decide)) (fun _ => ⟨rfl, rfl⟩) ?_
  have f11 : nw_fr (am_up (am_up (am_up (am_up (am_up r q 5 (.ref n)) q 6 (.ref (n + 1))) q 7 (.ref (n + 2))) q 8 (.ref (n + 3))) q 9 (.ref (n + 4))) (am_up h q 1 (nI 1)) (n + 5) := f10.pr (by omega) (by omega)
  refine am_aload_n (pc := 49) C dX5_init_49 rfl ?_
  refine am_bipush (pc := 50) (v := nI 120) C dX5_init_50 (by decide) ?_
  refine nx_newa1 (pc := 52) (N := 120) (m := n + 6) (cz := (6, 170)) C dX5_init_52 f11 (hs 5 (by decide)) (by decide +kernel) (by decide +kernel) (by decide +kernel) (nx_sb (by omega)) ⟨(nw_vbr (by omega)), trivial⟩ ⟨(nw_vbr (by omega)), trivial⟩ rfl rfl (Nat.le_of_ble_eq_true rfl) (Nat.le_of_ble_eq_true rfl) (fun ad6 o6 => ?_)
  have f12 : nw_fr (am_up (am_up (am_up (am_up (am_up r q 5 (.ref n)) q 6 (.ref (n + 1))) q 7 (.ref (n + 2))) q 8 (.ref (n + 3))) q 9 (.ref (n + 4))) (am_up h q 1 (nI 1)) (n + 6) := f11.mono (by omega)
  have ok6 : nw_ok n (n + 6) ad ad6 := nw_ok_tr ⟨by omega, by omega⟩ ok5 o6
  refine am_putRF (pc := 54) (ft := tyX5 10) C dX5_init_54 f5_31 (show q < n + 6 by omega) sq rfl rfl rfl (tyX5_ok 10 (by decide)) (fun _ => ⟨rfl, rfl⟩) ?_
  have f13 : nw_fr (am_up (am_up (am_up (am_up (am_up (am_up r q 5 (.ref n)) q 6 (.ref (n + 1))) q 7 (.ref (n + 2))) q 8 (.ref (n + 3))) q 9 (.ref (n + 4))) q 10 (.ref (n + 5))) (am_up h q 1 (nI 1)) (n + 6) := f12.pr (by omega) (by omega)
  refine am_aload_n (pc := 57) C dX5_init_57 rfl ?_
  refine am_bipush (pc := 58) (v := nI 40) C dX5_init_58 (by decide) ?_
  refine nx_newa1 (pc := 60) (N := 40) (m := n + 7) (cz := (7, 210)) C dX5_init_60 f13 (hs 6 (by decide)) (by decide +kernel) (by decide +kernel) (by decide +kernel) (nx_sb (by omega)) ⟨(nw_vbr (by omega)), trivial⟩ ⟨(nw_vbr (by omega)), trivial⟩ rfl rfl (Nat.le_of_ble_eq_true rfl) (Nat.le_of_ble_eq_true rfl) (fun ad7 o7 => ?_)
  have f14 : nw_fr (am_up (am_up (am_up (am_up (am_up (am_up r q 5 (.ref n)) q 6 (.ref (n + 1))) q 7 (.ref (n + 2))) q 8 (.ref (n + 3))) q 9 (.ref (n + 4))) q 10 (.ref (n + 5))) (am_up h q 1 (nI 1)) (n + 7) := f13.mono (by omega)
  have ok7 : nw_ok n (n + 7) ad ad7 := nw_ok_tr ⟨by omega, by omega⟩ ok6 o7
  refine am_putRF (pc := 62) (ft := tyX5 11) C dX5_init_62 f5_34 (show q < n + 7 by omega) sq rfl rfl rfl (tyX5_ok 11 (by decide)) (fun _ => ⟨rfl, rfl⟩) ?_
  have f15 : nw_fr (am_up (am_up (am_up (am_up (am_up (am_up (am_up r q 5 (.ref n)) q 6 (.ref (n + 1))) q 7 (.ref (n + 2))) q 8 (.ref (n + 3))) q 9 (.ref (n + 4))) q 10 (.ref (n + 5))) q 11 (.ref (n + 6))) (am_up h q 1 (nI 1)) (n + 7) := f14.pr (by omega) (by omega)
  refine am_aload_n (pc := 65) C dX5_init_65 rfl ?_
  refine am_bipush (pc := 66) (v := nI 40) C dX5_init_66 (by decide) ?_
  refine nx_newa1 (pc := 68) (N := 40) (m := n + 8) (cz := (8, 250)) C dX5_init_68 f15 (hs 7 (by decide)) (by decide +kernel) (by decide +kernel) (by decide +kernel) (nx_sb (by omega)) ⟨(nw_vbr (by omega)), trivial⟩ ⟨(nw_vbr (by omega)), trivial⟩ rfl rfl (Nat.le_of_ble_eq_true rfl) (Nat.le_of_ble_eq_true rfl) (fun ad8 o8 => ?_)
  have f16 : nw_fr (am_up (am_up (am_up (am_up (am_up (am_up (am_up r q 5 (.ref n)) q 6 (.ref (n + 1))) q 7 (.ref (n + 2))) q 8 (.ref (n + 3))) q 9 (.ref (n + 4))) q 10 (.ref (n + 5))) q 11 (.ref (n + 6))) (am_up h q 1 (nI 1)) (n + 8) := f15.mono (by omega)
  have ok8 : nw_ok n (n + 8) ad ad8 := nw_ok_tr ⟨by omega, by omega⟩ ok7 o8
  refine am_putRF (pc := 70) (ft := tyX5 12) C dX5_init_70 f5_37 (show q < n + 8 by omega) sq rfl rfl rfl (tyX5_ok 12 (by decide)) (fun _ => ⟨rfl, rfl⟩) ?_
  have f17 : nw_fr (am_up (am_up (am_up (am_up (am_up (am_up (am_up (am_up r q 5 (.ref n)) q 6 (.ref (n + 1))) q 7 (.ref (n + 2))) q 8 (.ref (n + 3))) q 9 (.ref (n + 4))) q 10 (.ref (n + 5))) q 11 (.ref (n + 6))) q 12 (.ref (n + 7))) (am_up h q 1 (nI 1)) (n + 8) := f16.pr (by omega) (by omega)
  refine am_aload_n (pc := 73) C dX5_init_73 rfl ?_
  refine am_bipush (pc := 74) (v := nI 40) C dX5_init_74 (by decide) ?_
  refine nx_newa1 (pc := 76) (N := 40) (m := n + 9) (cz := (9, 290)) C dX5_init_76 f17 (hs 8 (by decide)) (by decide +kernel) (by decide +kernel) (by decide +kernel) (nx_sb (by omega)) ⟨(nw_vbr (by omega)), trivial⟩ ⟨(nw_vbr (by omega)), trivial⟩ rfl rfl (Nat.le_of_ble_eq_true rfl) (Nat.le_of_ble_eq_true rfl) (fun ad9 o9 => ?_)
  have f18 : nw_fr (am_up (am_up (am_up (am_up (am_up (am_up (am_up (am_up r q 5 (.ref n)) q 6 (.ref (n + 1))) q 7 (.ref (n + 2))) q 8 (.ref (n + 3))) q 9 (.ref (n + 4))) q 10 (.ref (n + 5))) q 11 (.ref (n + 6))) q 12 (.ref (n + 7))) (am_up h q 1 (nI 1)) (n + 9) := f17.mono (by omega)
  have ok9 : nw_ok n (n + 9) ad ad9 := nw_ok_tr ⟨by omega, by omega⟩ ok8 o9
  refine am_putRF (pc := 78) (ft := tyX5 13) C dX5_init_78 f5_40 (show q < n + 9 by omega) sq rfl rfl rfl (tyX5_ok 13 (by decide)) (fun _ => ⟨rfl, rfl⟩) ?_
  have f19 : nw_fr (am_up (am_up (am_up (am_up (am_up (am_up (am_up (am_up (am_up r q 5 (.ref n)) q 6 (.ref (n + 1))) q 7 (.ref (n + 2))) q 8 (.ref (n + 3))) q 9 (.ref (n + 4))) q 10 (.ref (n + 5))) q 11 (.ref (n + 6))) q 12 (.ref (n + 7))) q 13 (.ref (n + 8))) (am_up h q 1 (nI 1)) (n + 9) := f18.pr (by omega) (by omega)
  refine am_aload_n (pc := 81) C dX5_init_81 rfl ?_
  refine am_bipush (pc := 82) (v := nI 60) C dX5_init_82 (by decide) ?_
  refine nx_newa1 (pc := 84) (N := 60) (m := n + 10) (cz := (10, 350)) C dX5_init_84 f19 (hs 9 (by decide)) (by decide +kernel) (by decide +kernel) (by decide +kernel) (nx_sb (by omega)) ⟨(nw_vbr (by omega)), trivial⟩ ⟨(nw_vbr (by omega)), trivial⟩ rfl rfl (Nat.le_of_ble_eq_true rfl) (Nat.le_of_ble_eq_true rfl) (fun ad10 o10 => ?_)
  have f20 : nw_fr (am_up (am_up (am_up (am_up (am_up (am_up (am_up (am_up (am_up r q 5 (.ref n)) q 6 (.ref (n + 1))) q 7 (.ref (n + 2))) q 8 (.ref (n + 3))) q 9 (.ref (n + 4))) q 10 (.ref (n + 5))) q 11 (.ref (n + 6))) q 12 (.ref (n + 7))) q 13 (.ref (n + 8))) (am_up h q 1 (nI 1)) (n + 10) := f19.mono (by omega)
  have ok10 : nw_ok n (n + 10) ad ad10 := nw_ok_tr ⟨by omega, by omega⟩ ok9 o10
  refine am_putRF (pc := 86) (ft := tyX5 14) C dX5_init_86 f5_43 (show q < n + 10 by omega) sq rfl rfl rfl (tyX5_ok 14 (by decide)) (fun _ => ⟨rfl, rfl⟩) ?_
  have f21 : nw_fr (am_up (am_up (am_up (am_up (am_up (am_up (am_up (am_up (am_up (am_up r q 5 (.ref n)) q 6 (.ref (n + 1))) q 7 (.ref (n + 2))) q 8 (.ref (n + 3))) q 9 (.ref (n + 4))) q 10 (.ref (n + 5))) q 11 (.ref (n + 6))) q 12 (.ref (n + 7))) q 13 (.ref (n + 8))) q 14 (.ref (n + 9))) (am_up h q 1 (nI 1)) (n + 10) := f20.pr (by omega) (by omega)
  refine am_aload_n (pc := 89) C dX5_init_89 rfl ?_
  refine am_bipush (pc := 90) (v := nI 60) C dX5_init_90 (by decide) ?_
  refine nx_newa1 (pc := 92) (N := 60) (m := n + 11) (cz := (11, 410)) C dX5_init_92 f21 (hs 10 (by decide)) (by decide +kernel) (by decide +kernel) (by decide +kernel) (nx_sb (by omega)) ⟨(nw_vbr (by omega)), trivial⟩ ⟨(nw_vbr (by omega)), trivial⟩ rfl rfl (Nat.le_of_ble_eq_true rfl) (Nat.le_of_ble_eq_true rfl) (fun ad11 o11 => ?_)
  have f22 : nw_fr (am_up (am_up (am_up (am_up (am_up (am_up (am_up (am_up (am_up (am_up r q 5 (.ref n)) q 6 (.ref (n + 1))) q 7 (.ref (n + 2))) q 8 (.ref (n + 3))) q 9 (.ref (n + 4))) q 10 (.ref (n + 5))) q 11 (.ref (n + 6))) q 12 (.ref (n + 7))) q 13 (.ref (n + 8))) q 14 (.ref (n + 9))) (am_up h q 1 (nI 1)) (n + 11) := f21.mono (by omega)
  have ok11 : nw_ok n (n + 11) ad ad11 := nw_ok_tr ⟨by omega, by omega⟩ ok10 o11
  refine am_putRF (pc := 94) (ft := tyX5 15) C dX5_init_94 f5_46 (show q < n + 11 by omega) sq rfl rfl rfl (tyX5_ok 15 (by decide)) (fun _ => ⟨rfl, rfl⟩) ?_
  have f23 : nw_fr (am_up (am_up (am_up (am_up (am_up (am_up (am_up (am_up (am_up (am_up (am_up r q 5 (.ref n)) q 6 (.ref (n + 1))) q 7 (.ref (n + 2))) q 8 (.ref (n + 3))) q 9 (.ref (n + 4))) q 10 (.ref (n + 5))) q 11 (.ref (n + 6))) q 12 (.ref (n + 7))) q 13 (.ref (n + 8))) q 14 (.ref (n + 9))) q 15 (.ref (n + 10))) (am_up h q 1 (nI 1)) (n + 11) := f22.pr (by omega) (by omega)
  refine am_aload_n (pc := 97) C dX5_init_97 rfl ?_
  refine am_bipush (pc := 98) (v := nI 60) C dX5_init_98 (by decide) ?_
  refine nx_newa1 (pc := 100) (N := 60) (m := n + 12) (cz := (12, 470)) C dX5_init_100 f23 (hs 11 (by decide)) (by decide +kernel) (by decide +kernel) (by decide +kernel) (nx_sb (by omega)) ⟨(nw_vbr (by omega)), trivial⟩ ⟨(nw_vbr (by omega)), trivial⟩ rfl rfl (Nat.le_of_ble_eq_true rfl) (Nat.le_of_ble_eq_true rfl) (fun ad12 o12 => ?_)
  have f24 : nw_fr (am_up (am_up (am_up (am_up (am_up (am_up (am_up (am_up (am_up (am_up (am_up r q 5 (.ref n)) q 6 (.ref (n + 1))) q 7 (.ref (n + 2))) q 8 (.ref (n + 3))) q 9 (.ref (n + 4))) q 10 (.ref (n + 5))) q 11 (.ref (n + 6))) q 12 (.ref (n + 7))) q 13 (.ref (n + 8))) q 14 (.ref (n + 9))) q 15 (.ref (n + 10))) (am_up h q 1 (nI 1)) (n + 12) := f23.mono (by omega)
  have ok12 : nw_ok n (n + 12) ad ad12 := nw_ok_tr ⟨by omega, by omega⟩ ok11 o12
  refine am_putRF (pc := 102) (ft := tyX5 16) C dX5_init_102 f5_49 (show q < n + 12 by omega) sq rfl rfl rfl (tyX5_ok 16 (by decide)) (fun _ => ⟨rfl, rfl⟩) ?_
  have f25 : nw_fr (am_up (am_up (am_up (am_up (am_up (am_up (am_up (am_up (am_up (am_up (am_up (am_up r q 5 (.ref n)) q 6 (.ref (n + 1))) q 7 (.ref (n + 2))) q 8 (.ref (n + 3))) q 9 (.ref (n + 4))) q 10 (.ref (n + 5))) q 11 (.ref (n + 6))) q 12 (.ref (n + 7))) q 13 (.ref (n + 8))) q 14 (.ref (n + 9))) q 15 (.ref (n + 10))) q 16 (.ref (n + 11))) (am_up h q 1 (nI 1)) (n + 12) := f24.pr (by omega) (by omega)
  refine am_aload_n (pc := 105) C dX5_init_105 rfl ?_
  refine am_bipush (pc := 106) (v := nI 60) C dX5_init_106 (by decide) ?_
  refine nx_newa1 (pc := 108) (N := 60) (m := n + 13) (cz := (13, 530)) C dX5_init_108 f25 (hs 12 (by decide)) (by decide +kernel) (by decide +kernel) (by decide +kernel) (nx_sb (by omega)) ⟨(nw_vbr (by omega)), trivial⟩ ⟨(nw_vbr (by omega)), trivial⟩ rfl rfl (Nat.le_of_ble_eq_true rfl) (Nat.le_of_ble_eq_true rfl) (fun ad13 o13 => ?_)
  have f26 : nw_fr (am_up (am_up (am_up (am_up (am_up (am_up (am_up (am_up (am_up (am_up (am_up (am_up r q 5 (.ref n)) q 6 (.ref (n + 1))) q 7 (.ref (n + 2))) q 8 (.ref (n + 3))) q 9 (.ref (n + 4))) q 10 (.ref (n + 5))) q 11 (.ref (n + 6))) q 12 (.ref (n + 7))) q 13 (.ref (n + 8))) q 14 (.ref (n + 9))) q 15 (.ref (n + 10))) q 16 (.ref (n + 11))) (am_up h q 1 (nI 1)) (n + 13) := f25.mono (by omega)
  have ok13 : nw_ok n (n + 13) ad ad13 := nw_ok_tr ⟨by omega, by omega⟩ ok12 o13
  refine am_putRF (pc := 110) (ft := tyX5 17) C dX5_init_110 f5_52 (show q < n + 13 by omega) sq rfl rfl rfl (tyX5_ok 17 (by decide)) (fun _ => ⟨rfl, rfl⟩) ?_
  have f27 : nw_fr (am_up (am_up (am_up (am_up (am_up (am_up (am_up (am_up (am_up (am_up (am_up (am_up (am_up r q 5 (.ref n)) q 6 (.ref (n + 1))) q 7 (.ref (n + 2))) q 8 (.ref (n + 3))) q 9 (.ref (n + 4))) q 10 (.ref (n + 5))) q 11 (.ref (n + 6))) q 12 (.ref (n + 7))) q 13 (.ref (n + 8))) q 14 (.ref (n + 9))) q 15 (.ref (n + 10))) q 16 (.ref (n + 11))) q 17 (.ref (n + 12))) (am_up h q 1 (nI 1)) (n + 13) := f26.pr (by omega) (by omega)
  refine am_aload_n (pc := 113) C dX5_init_113 rfl ?_
  refine am_bipush (pc := 114) (v := nI 60) C dX5_init_114 (by decide) ?_
  refine nx_newa1 (pc := 116) (N := 60) (m := n + 14) (cz := (14, 590)) C dX5_init_116 f27 (hs 13 (by decide)) (by decide +kernel) (by decide +kernel) (by decide +kernel) (nx_sb (by omega)) ⟨(nw_vbr (by omega)), trivial⟩ ⟨(nw_vbr (by omega)), trivial⟩ rfl rfl (Nat.le_of_ble_eq_true rfl) (Nat.le_of_ble_eq_true rfl) (fun ad14 o14 => ?_)
  have f28 : nw_fr (am_up (am_up (am_up (am_up (am_up (am_up (am_up (am_up (am_up (am_up (am_up (am_up (am_up r q 5 (.ref n)) q 6 (.ref (n + 1))) q 7 (.ref (n + 2))) q 8 (.ref (n + 3))) q 9 (.ref (n + 4))) q 10 (.ref (n + 5))) q 11 (.ref (n + 6))) q 12 (.ref (n + 7))) q 13 (.ref (n + 8))) q 14 (.ref (n + 9))) q 15 (.ref (n + 10))) q 16 (.ref (n + 11))) q 17 (.ref (n + 12))) (am_up h q 1 (nI 1)) (n + 14) := f27.mono (by omega)
  have ok14 : nw_ok n (n + 14) ad ad14 := nw_ok_tr ⟨by omega, by omega⟩ ok13 o14
  refine am_putRF (pc := 118) (ft := tyX5 18) C dX5_init_118 f5_55 (show q < n + 14 by omega) sq rfl rfl rfl (tyX5_ok 18 (by decide)) (fun _ => ⟨rfl, rfl⟩) ?_
  have f29 : nw_fr (am_up (am_up (am_up (am_up (am_up (am_up (am_up (am_up (am_up (am_up (am_up (am_up (am_up (am_up r q 5 (.ref n)) q 6 (.ref (n + 1))) q 7 (.ref (n + 2))) q 8 (.ref (n + 3))) q 9 (.ref (n + 4))) q 10 (.ref (n + 5))) q 11 (.ref (n + 6))) q 12 (.ref (n + 7))) q 13 (.ref (n + 8))) q 14 (.ref (n + 9))) q 15 (.ref (n + 10))) q 16 (.ref (n + 11))) q 17 (.ref (n + 12))) q 18 (.ref (n + 13))) (am_up h q 1 (nI 1)) (n + 14) := f28.pr (by omega) (by omega)
  exact am_nret T ok14 dX5_init_121 rfl (Nat.le_of_ble_eq_true rfl) (Nat.le_of_ble_eq_true rfl) ⟨rfl, rfl, f29⟩

def nk_X8_init (r : am_R) (q n : Nat) : am_R := am_up r q 0 (.ref n)
def nl_X8_init : List (Nat × Nat) := [(1, 400)]
set_option maxHeartbeats 4000000 in
set_option maxRecDepth 100000 in
theorem nc_X8_init {ad : Nat → Nat} {r : am_R} {h : am_H} {q n : Nat} (fr : nw_fr r h n) (hq : q < n) (hb : n + 1 ≤ 1000) (sq : am_SH q = (0, 8)) (hs : nw_shs n nl_X8_init) : am_NM mX8_init 1 1 400 [.ref q] ad n (n + 1) am_SH r h (nw_Q (nk_X8_init r q n) h (n + 1)) := by
  refine am_NM.of (by decide +kernel) (Nat.le_of_ble_eq_true rfl) (fun X C hO T => ?_)
  show am_G X (ad, n, am_SH) (0, 0) 0 [(0, .ref q)] [] r h
  refine am_aload_n (pc := 0) C dX8_init_0 rfl ?_
  refine am_objInit (pc := 1) C dX8_init_1 (am_mem 181 (by decide +kernel) rfl) (by decide) (Nat.le_of_ble_eq_true rfl) ?_
  refine am_aload_n (pc := 4) C dX8_init_4 rfl ?_
  refine am_sipush (pc := 5) (v := nI 400) C dX8_init_5 (by decide) ?_
  refine nx_newa1 (pc := 8) (N := 400) (m := n + 1) (cz := (1, 400)) C dX8_init_8 fr (hs 0 (by decide)) (by decide +kernel) (by decide +kernel) (by decide +kernel) (nx_sb (by omega)) ⟨(nw_vbr (by omega)), trivial⟩ ⟨(nw_vbr (by omega)), trivial⟩ rfl rfl (Nat.le_of_ble_eq_true rfl) (Nat.le_of_ble_eq_true rfl) (fun ad1 o1 => ?_)
  have f1 : nw_fr r h (n + 1) := fr.mono (by omega)
  refine am_putRF (pc := 10) (ft := tyX8 0) C dX8_init_10 f8_9 (show q < n + 1 by omega) sq rfl rfl rfl (tyX8_ok 0 (by decide)) (fun _ => ⟨rfl, rfl⟩) ?_
  have f2 : nw_fr (am_up r q 0 (.ref n)) h (n + 1) := f1.pr (by omega) (by omega)
  exact am_nret T o1 dX8_init_13 rfl (Nat.le_of_ble_eq_true rfl) (Nat.le_of_ble_eq_true rfl) ⟨rfl, rfl, f2⟩

def nk_X7_init (r : am_R) (q w n : Nat) : am_R := am_up (am_up r q 0 (.ref w)) q 1 (.ref n)
def nl_X7_init : List (Nat × Nat) := [(1, 488)]
set_option maxHeartbeats 4000000 in
set_option maxRecDepth 100000 in
theorem nc_X7_init {ad : Nat → Nat} {r : am_R} {h : am_H} {q w n : Nat} (fr : nw_fr r h n) (hq : q < n) (hw : w < n) (hb : n + 1 ≤ 1000) (sq : am_SH q = (0, 7)) (hs : nw_shs n nl_X7_init) : am_NM mX7_init 1 1 488 [.ref q, .ref w] ad n (n + 1) am_SH r h (nw_Q (nk_X7_init r q w n) h (n + 1)) := by
  refine am_NM.of (by decide +kernel) (Nat.le_of_ble_eq_true rfl) (fun X C hO T => ?_)
  show am_G X (ad, n, am_SH) (0, 0) 0 [(0, .ref q), (1, .ref w)] [] r h
  refine am_aload_n (pc := 0) C dX7_init_0 rfl ?_
  refine am_objInit (pc := 1) C dX7_init_1 (am_mem 542 (by decide +kernel) rfl) (by decide) (Nat.le_of_ble_eq_true rfl) ?_
  refine am_aload_n (pc := 4) C dX7_init_4 rfl ?_
  refine am_aload_n (pc := 5) C dX7_init_5 rfl ?_
  refine am_putRF (pc := 6) (ft := tyX7 0) C dX7_init_6 f7_9 (show q < n by omega) sq rfl rfl rfl (tyX7_ok 0 (by decide)) (fun _ => ⟨rfl, rfl⟩) ?_
  have f1 : nw_fr (am_up r q 0 (.ref w)) h (n) := fr.pr (by omega) (by omega)
  refine am_aload_n (pc := 9) C dX7_init_9 rfl ?_
  refine am_sipush (pc := 10) (v := nI 488) C dX7_init_10 (by decide) ?_
  refine nx_newa1 (pc := 13) (N := 488) (m := n + 1) (cz := (1, 488)) C dX7_init_13 f1 (hs 0 (by decide)) (by decide +kernel) (by decide +kernel) (by decide +kernel) (nx_sb (by omega)) ⟨(nw_vbr (by omega)), (nw_vbr (by omega)), trivial⟩ ⟨(nw_vbr (by omega)), trivial⟩ rfl rfl (Nat.le_of_ble_eq_true rfl) (Nat.le_of_ble_eq_true rfl) (fun ad1 o1 => ?_)
  have f2 : nw_fr (am_up r q 0 (.ref w)) h (n + 1) := f1.mono (by omega)
  refine am_putRF (pc := 15) (ft := tyX7 1) C dX7_init_15 f7_15 (show q < n + 1 by omega) sq rfl rfl rfl (tyX7_ok 1 (by decide)) (fun _ => ⟨rfl, rfl⟩) ?_
  have f3 : nw_fr (am_up (am_up r q 0 (.ref w)) q 1 (.ref n)) h (n + 1) := f2.pr (by omega) (by omega)
  exact am_nret T o1 dX7_init_18 rfl (Nat.le_of_ble_eq_true rfl) (Nat.le_of_ble_eq_true rfl) ⟨rfl, rfl, f3⟩

def nk_X0_init (r : am_R) (q w n : Nat) : am_R := am_up (am_up (am_up (am_up r q 0 (.ref w)) q 1 (.ref n)) q 2 (.ref (n + 1))) q 3 (.ref (n + 2))
def nl_X0_init : List (Nat × Nat) := [(1, 8), (1, 8), (1, 1024)]
set_option maxHeartbeats 4000000 in
set_option maxRecDepth 100000 in
theorem nc_X0_init {ad : Nat → Nat} {r : am_R} {h : am_H} {q w n : Nat} (fr : nw_fr r h n) (hq : q < n) (hw : w < n) (hb : n + 3 ≤ 1000) (sq : am_SH q = (0, 0)) (hs : nw_shs n nl_X0_init) : am_NM mX0_init 1 3 1040 [.ref q, .ref w] ad n (n + 3) am_SH r h (nw_Q (nk_X0_init r q w n) h (n + 3)) := by
  refine am_NM.of (by decide +kernel) (Nat.le_of_ble_eq_true rfl) (fun X C hO T => ?_)
  show am_G X (ad, n, am_SH) (0, 0) 0 [(0, .ref q), (1, .ref w)] [] r h
  refine am_aload_n (pc := 0) C dX0_init_0 rfl ?_
  refine am_objInit (pc := 1) C dX0_init_1 (am_mem 558 (by decide +kernel) rfl) (by decide) (Nat.le_of_ble_eq_true rfl) ?_
  refine am_aload_n (pc := 4) C dX0_init_4 rfl ?_
  refine am_aload_n (pc := 5) C dX0_init_5 rfl ?_
  refine am_putRF (pc := 6) (ft := tyX0 0) C dX0_init_6 f0_9 (show q < n by omega) sq rfl rfl rfl (tyX0_ok 0 (by decide)) (fun _ => ⟨rfl, rfl⟩) ?_
  have f1 : nw_fr (am_up r q 0 (.ref w)) h (n) := fr.pr (by omega) (by omega)
  refine am_aload_n (pc := 9) C dX0_init_9 rfl ?_
  refine am_bipush (pc := 10) (v := nI 8) C dX0_init_10 (by decide) ?_
  refine nx_newa1 (pc := 12) (N := 8) (m := n + 1) (cz := (1, 8)) C dX0_init_12 f1 (hs 0 (by decide)) (by decide +kernel) (by decide +kernel) (by decide +kernel) (nx_sb (by omega)) ⟨(nw_vbr (by omega)), (nw_vbr (by omega)), trivial⟩ ⟨(nw_vbr (by omega)), trivial⟩ rfl rfl (Nat.le_of_ble_eq_true rfl) (Nat.le_of_ble_eq_true rfl) (fun ad1 o1 => ?_)
  have f2 : nw_fr (am_up r q 0 (.ref w)) h (n + 1) := f1.mono (by omega)
  refine am_putRF (pc := 14) (ft := tyX0 1) C dX0_init_14 f0_15 (show q < n + 1 by omega) sq rfl rfl rfl (tyX0_ok 1 (by decide)) (fun _ => ⟨rfl, rfl⟩) ?_
  have f3 : nw_fr (am_up (am_up r q 0 (.ref w)) q 1 (.ref n)) h (n + 1) := f2.pr (by omega) (by omega)
  refine am_aload_n (pc := 17) C dX0_init_17 rfl ?_
  refine am_bipush (pc := 18) (v := nI 8) C dX0_init_18 (by decide) ?_
  refine nx_newa1 (pc := 20) (N := 8) (m := n + 2) (cz := (2, 16)) C dX0_init_20 f3 (hs 1 (by decide)) (by decide +kernel) (by decide +kernel) (by decide +kernel) (nx_sb (by omega)) ⟨(nw_vbr (by omega)), (nw_vbr (by omega)), trivial⟩ ⟨(nw_vbr (by omega)), trivial⟩ rfl rfl (Nat.le_of_ble_eq_true rfl) (Nat.le_of_ble_eq_true rfl) (fun ad2 o2 => ?_)
  have f4 : nw_fr (am_up (am_up r q 0 (.ref w)) q 1 (.ref n)) h (n + 2) := f3.mono (by omega)
  have ok2 : nw_ok n (n + 2) ad ad2 := nw_ok_tr ⟨by omega, by omega⟩ o1 o2
  refine am_putRF (pc := 22) (ft := tyX0 2) C dX0_init_22 f0_19 (show q < n + 2 by omega) sq rfl rfl rfl (tyX0_ok 2 (by decide)) (fun _ => ⟨rfl, rfl⟩) ?_
  have f5 : nw_fr (am_up (am_up (am_up r q 0 (.ref w)) q 1 (.ref n)) q 2 (.ref (n + 1))) h (n + 2) := f4.pr (by omega) (by omega)
  refine am_aload_n (pc := 25) C dX0_init_25 rfl ?_
  refine am_sipush (pc := 26) (v := nI 1024) C dX0_init_26 (by decide) ?_
  refine nx_newa1 (pc := 29) (N := 1024) (m := n + 3) (cz := (3, 1040)) C dX0_init_29 f5 (hs 2 (by decide)) (by decide +kernel) (by decide +kernel) (by decide +kernel) (nx_sb (by omega)) ⟨(nw_vbr (by omega)), (nw_vbr (by omega)), trivial⟩ ⟨(nw_vbr (by omega)), trivial⟩ rfl rfl (Nat.le_of_ble_eq_true rfl) (Nat.le_of_ble_eq_true rfl) (fun ad3 o3 => ?_)
  have f6 : nw_fr (am_up (am_up (am_up r q 0 (.ref w)) q 1 (.ref n)) q 2 (.ref (n + 1))) h (n + 3) := f5.mono (by omega)
  have ok3 : nw_ok n (n + 3) ad ad3 := nw_ok_tr ⟨by omega, by omega⟩ ok2 o3
  refine am_putRF (pc := 31) (ft := tyX0 3) C dX0_init_31 f0_22 (show q < n + 3 by omega) sq rfl rfl rfl (tyX0_ok 3 (by decide)) (fun _ => ⟨rfl, rfl⟩) ?_
  have f7 : nw_fr (am_up (am_up (am_up (am_up r q 0 (.ref w)) q 1 (.ref n)) q 2 (.ref (n + 1))) q 3 (.ref (n + 2))) h (n + 3) := f6.pr (by omega) (by omega)
  exact am_nret T ok3 dX0_init_34 rfl (Nat.le_of_ble_eq_true rfl) (Nat.le_of_ble_eq_true rfl) ⟨rfl, rfl, f7⟩

def nk_X2_init (r : am_R) (q t l n : Nat) : am_R := am_up (am_up r q 0 (.ref t)) q 1 (.ref l)
set_option maxHeartbeats 4000000 in
set_option maxRecDepth 100000 in
theorem nc_X2_init {ad : Nat → Nat} {r : am_R} {h : am_H} {q t l n : Nat} (fr : nw_fr r h n) (hq : q < n) (ht : t < n) (hl : l < n) (hb : n + 0 ≤ 1000) (sq : am_SH q = (0, 2)) : am_NM mX2_init 1 0 0 [.ref q, .ref t, .ref l] ad n n am_SH r h (nw_Q (nk_X2_init r q t l n) h n) := by
  refine am_NM.of (by decide +kernel) (Nat.le_of_ble_eq_true rfl) (fun X C hO T => ?_)
  show am_G X (ad, n, am_SH) (0, 0) 0 [(0, .ref q), (1, .ref t), (2, .ref l)] [] r h
  refine am_aload_n (pc := 0) C dX2_init_0 rfl ?_
  refine am_objInit (pc := 1) C dX2_init_1 (am_mem 493 (by decide +kernel) rfl) (by decide) (Nat.le_of_ble_eq_true rfl) ?_
  refine am_aload_n (pc := 4) C dX2_init_4 rfl ?_
  refine am_aload_n (pc := 5) C dX2_init_5 rfl ?_
  refine am_putRF (pc := 6) (ft := tyX2 0) C dX2_init_6 f2_9 (show q < n by omega) sq rfl rfl rfl (tyX2_ok 0 (by decide)) (fun _ => ⟨rfl, rfl⟩) ?_
  have f1 : nw_fr (am_up r q 0 (.ref t)) h (n) := fr.pr (by omega) (by omega)
  refine am_aload_n (pc := 9) C dX2_init_9 rfl ?_
  refine am_aload_n (pc := 10) C dX2_init_10 rfl ?_
  refine am_putRF (pc := 11) (ft := tyX2 1) C dX2_init_11 f2_15 (show q < n by omega) sq rfl rfl rfl (tyX2_ok 1 (by decide)) (fun _ => ⟨rfl, rfl⟩) ?_
  have f2 : nw_fr (am_up (am_up r q 0 (.ref t)) q 1 (.ref l)) h (n) := f1.pr (by omega) (by omega)
  exact am_nret T nw_ok_rf dX2_init_14 rfl (Nat.le_of_ble_eq_true rfl) (Nat.le_of_ble_eq_true rfl) ⟨rfl, rfl, f2⟩

def nk_X10_init (r : am_R) (q l w n : Nat) : am_R := am_up (nk_X5_init (am_up (am_up r q 0 (.ref l)) q 1 (.ref w)) n (n + 1)) q 2 (.ref n)
def nh_X10_init (h : am_H) (q l w n : Nat) : am_H := nh_X5_init h n (n + 1)
def nl_X10_init : List (Nat × Nat) := [(0, 5), (1, 10), (1, 10), (1, 10), (1, 10), (1, 10), (1, 120), (1, 40), (1, 40), (1, 40), (1, 60), (1, 60), (1, 60), (1, 60), (1, 60)]
set_option maxHeartbeats 4000000 in
set_option maxRecDepth 100000 in
theorem nc_X10_init {ad : Nat → Nat} {r : am_R} {h : am_H} {q l w n : Nat} (fr : nw_fr r h n) (hq : q < n) (hl : l < n) (hw : w < n) (hb : n + 15 ≤ 1000) (sq : am_SH q = (0, 10)) (hs : nw_shs n nl_X10_init) : am_NM mX10_init 2 15 609 [.ref q, .ref l, .ref w] ad n (n + 15) am_SH r h (nw_Q (nk_X10_init r q l w n) (nh_X10_init h q l w n) (n + 15)) := by
  refine am_NM.of (by decide +kernel) (Nat.le_of_ble_eq_true rfl) (fun X C hO T => ?_)
  show am_G X (ad, n, am_SH) (0, 0) 0 [(0, .ref q), (1, .ref l), (2, .ref w)] [] r h
  refine am_aload_n (pc := 0) C dX10_init_0 rfl ?_
  refine am_objInit (pc := 1) C dX10_init_1 (am_mem 356 (by decide +kernel) rfl) (by decide) (Nat.le_of_ble_eq_true rfl) ?_
  refine am_aload_n (pc := 4) C dX10_init_4 rfl ?_
  refine am_aload_n (pc := 5) C dX10_init_5 rfl ?_
  refine am_putRF (pc := 6) (ft := tyX10 0) C dX10_init_6 f10_9 (show q < n by omega) sq rfl rfl rfl (tyX10_ok 0 (by decide)) (fun _ => ⟨rfl, rfl⟩) ?_
  have f1 : nw_fr (am_up r q 0 (.ref l)) h (n) := fr.pr (by omega) (by omega)
  refine am_aload_n (pc := 9) C dX10_init_9 rfl ?_
  refine am_aload_n (pc := 10) C dX10_init_10 rfl ?_
  refine am_putRF (pc := 11) (ft := tyX10 1) C dX10_init_11 f10_15 (show q < n by omega) sq rfl rfl rfl (tyX10_ok 1 (by decide)) (fun _ => ⟨rfl, rfl⟩) ?_
  have f2 : nw_fr (am_up (am_up r q 0 (.ref l)) q 1 (.ref w)) h (n) := f1.pr (by omega) (by omega)
  refine am_aload_n (pc := 14) C dX10_init_14 rfl ?_
  refine nx_new (pc := 15) (ci := 5) (m := n + 1) (cz := (1, 19)) C dX10_init_15 f2 (hs 0 (by decide)) (by decide) nw_de5 (am_mem 357 (by decide +kernel) rfl) (am_mem 358 (by decide +kernel) rfl) (am_mem 145 (by decide +kernel) rfl) (nx_sb (by omega)) ⟨(nw_vbr (by omega)), (nw_vbr (by omega)), (nw_vbr (by omega)), trivial⟩ ⟨(nw_vbr (by omega)), trivial⟩ rfl rfl (Nat.le_of_ble_eq_true rfl) (Nat.le_of_ble_eq_true rfl) (fun ad1 o1 => ?_)
  have f3 : nw_fr (am_up (am_up r q 0 (.ref l)) q 1 (.ref w)) h (n + 1) := f2.mono (by omega)
  refine am_dup (pc := 18) C dX10_init_18 rfl ?_
  refine nx_callN (Y := mX5_init) (pc := 19) (st := [.ref n, .ref q]) (As := []) (n' := n + 15) (cz := (15, 609)) C hO dX10_init_19 k10_21 v_X5_init rfl rfl (by decide) rfl (Nat.le_of_ble_eq_true rfl) (Nat.le_of_ble_eq_true rfl) (Nat.le_of_ble_eq_true rfl) (nx_sbl (by omega)) ⟨(nw_vbr (by omega)), (nw_vbr (by omega)), (nw_vbr (by omega)), trivial⟩ ⟨(nw_vbr (by omega)), (nw_vbr (by omega)), trivial⟩ (nc_X5_init (q := n) (n := n + 1) f3 (by omega) (by omega) (hs 0 (by decide)) (nw_shs_sub (l := nl_X5_init) (k := 1) hs (by decide +kernel))) (fun ad15 o15 f4 => ?_)
  have ok15 : nw_ok n (n + 15) ad ad15 := nw_ok_tr ⟨by omega, by omega⟩ o1 o15
  refine am_putRF (pc := 22) (ft := tyX10 2) C dX10_init_22 f10_22 (show q < n + 15 by omega) sq rfl rfl rfl (tyX10_ok 2 (by decide)) (fun _ => ⟨rfl, rfl⟩) ?_
  have f5 : nw_fr (am_up (nk_X5_init (am_up (am_up r q 0 (.ref l)) q 1 (.ref w)) n (n + 1)) q 2 (.ref n)) (nh_X5_init h n (n + 1)) (n + 15) := f4.pr (by omega) (by omega)
  exact am_nret T ok15 dX10_init_25 rfl (Nat.le_of_ble_eq_true rfl) (Nat.le_of_ble_eq_true rfl) ⟨rfl, rfl, f5⟩

def nk_X9_init (r : am_R) : am_R := am_up (am_up (am_up r 130 0 (.ref 1)) 130 1 (.ref 56)) 130 2 (.ref 57)
set_option maxHeartbeats 4000000 in
set_option maxRecDepth 100000 in
theorem nc_X9_init {ad : Nat → Nat} {r : am_R} {h : am_H} (fr : nw_fr r h 131) (hl : r 56 0 = .ref 57) : am_NM mX9_init 1 0 0 [.ref 130, .ref 1, .ref 56] ad 131 131 am_SH r h (nw_Q (nk_X9_init r) h 131) := by
  refine am_NM.of (by decide +kernel) (Nat.le_of_ble_eq_true rfl) (fun X C hO T => ?_)
  show am_G X (ad, 131, am_SH) (0, 0) 0 [(0, .ref 130), (1, .ref 1), (2, .ref 56)] [] r h
  refine am_aload_n (pc := 0) C dX9_init_0 rfl ?_
  refine am_objInit (pc := 1) C dX9_init_1 (am_mem 474 (by decide +kernel) rfl) (by decide) (Nat.le_of_ble_eq_true rfl) ?_
  refine am_aload_n (pc := 4) C dX9_init_4 rfl ?_
  refine am_aload_n (pc := 5) C dX9_init_5 rfl ?_
  refine am_putRF (pc := 6) (ft := tyX9 0) C dX9_init_6 f9_9 (show 130 < 131 by omega) sh_130 rfl rfl rfl (tyX9_ok 0 (by decide)) (fun _ => ⟨rfl, rfl⟩) ?_
  have f1 : nw_fr (am_up r 130 0 (.ref 1)) h (131) := fr.pr (by omega) (by omega)
  refine am_aload_n (pc := 9) C dX9_init_9 rfl ?_
  refine am_aload_n (pc := 10) C dX9_init_10 rfl ?_
  refine am_putRF (pc := 11) (ft := tyX9 1) C dX9_init_11 f9_15 (show 130 < 131 by omega) sh_130 rfl rfl rfl (tyX9_ok 1 (by decide)) (fun _ => ⟨rfl, rfl⟩) ?_
  have f2 : nw_fr (am_up (am_up r 130 0 (.ref 1)) 130 1 (.ref 56)) h (131) := f1.pr (by omega) (by omega)
  refine am_aload_n (pc := 14) C dX9_init_14 rfl ?_
  refine am_aload_n (pc := 15) C dX9_init_15 rfl ?_
  refine am_getR (pc := 16) (j := 57) C dX9_init_16 f9_19 (show 56 < 131 by omega) sh_56 hl ?_
  refine am_putRF (pc := 19) (ft := tyX9 2) C dX9_init_19 f9_25 (show 130 < 131 by omega) sh_130 rfl rfl rfl (tyX9_ok 2 (by decide)) (fun _ => ⟨rfl, rfl⟩) ?_
  have f3 : nw_fr (am_up (am_up (am_up r 130 0 (.ref 1)) 130 1 (.ref 56)) 130 2 (.ref 57)) h (131) := f2.pr (by omega) (by omega)
  exact am_nret T nw_ok_rf dX9_init_22 rfl (Nat.le_of_ble_eq_true rfl) (Nat.le_of_ble_eq_true rfl) ⟨rfl, rfl, f3⟩

def nk_X6_init (r : am_R) : am_R := am_up (am_up (am_up (am_up r 314 0 (.ref 3)) 314 1 (.ref 4)) 314 2 (.ref 25)) 314 3 (.ref 315)
set_option maxHeartbeats 4000000 in
set_option maxRecDepth 100000 in
theorem nc_X6_init {ad : Nat → Nat} {r : am_R} {h : am_H} (fr : nw_fr r h 315) (hl : r 3 0 = .ref 4) (hc : r 3 2 = .ref 25) : am_NM mX6_init 1 1 10 [.ref 314, .ref 3] ad 315 316 am_SH r h (nw_Q (nk_X6_init r) h 316) := by
  refine am_NM.of (by decide +kernel) (Nat.le_of_ble_eq_true rfl) (fun X C hO T => ?_)
  show am_G X (ad, 315, am_SH) (0, 0) 0 [(0, .ref 314), (1, .ref 3)] [] r h
  refine am_aload_n (pc := 0) C dX6_init_0 rfl ?_
  refine am_objInit (pc := 1) C dX6_init_1 (am_mem 523 (by decide +kernel) rfl) (by decide) (Nat.le_of_ble_eq_true rfl) ?_
  refine am_aload_n (pc := 4) C dX6_init_4 rfl ?_
  refine am_aload_n (pc := 5) C dX6_init_5 rfl ?_
  refine am_putRF (pc := 6) (ft := tyX6 0) C dX6_init_6 f6_9 (show 314 < 315 by omega) sh_314 rfl rfl rfl (tyX6_ok 0 (by decide)) (fun _ => ⟨rfl, rfl⟩) ?_
  have f1 : nw_fr (am_up r 314 0 (.ref 3)) h (315) := fr.pr (by omega) (by omega)
  refine am_aload_n (pc := 9) C dX6_init_9 rfl ?_
  refine am_aload_n (pc := 10) C dX6_init_10 rfl ?_
  refine am_getR (pc := 11) (j := 4) C dX6_init_11 f6_15 (show 3 < 315 by omega) sh_3 hl ?_
  refine am_putRF (pc := 14) (ft := tyX6 1) C dX6_init_14 f6_21 (show 314 < 315 by omega) sh_314 rfl rfl rfl (tyX6_ok 1 (by decide)) (fun _ => ⟨rfl, rfl⟩) ?_
  have f2 : nw_fr (am_up (am_up r 314 0 (.ref 3)) 314 1 (.ref 4)) h (315) := f1.pr (by omega) (by omega)
  refine am_aload_n (pc := 17) C dX6_init_17 rfl ?_
  refine am_aload_n (pc := 18) C dX6_init_18 rfl ?_
  refine am_getR (pc := 19) (j := 25) C dX6_init_19 f6_22 (show 3 < 315 by omega) sh_3 hc ?_
  refine am_putRF (pc := 22) (ft := tyX6 2) C dX6_init_22 f6_26 (show 314 < 315 by omega) sh_314 rfl rfl rfl (tyX6_ok 2 (by decide)) (fun _ => ⟨rfl, rfl⟩) ?_
  have f3 : nw_fr (am_up (am_up (am_up r 314 0 (.ref 3)) 314 1 (.ref 4)) 314 2 (.ref 25)) h (315) := f2.pr (by omega) (by omega)
  refine am_aload_n (pc := 25) C dX6_init_25 rfl ?_
  refine am_bipush (pc := 26) (v := nI 10) C dX6_init_26 (by decide) ?_
  refine nx_newa1 (pc := 28) (N := 10) (m := 316) (cz := (1, 10)) C dX6_init_28 f3 sh_315 (by decide +kernel) (by decide +kernel) (by decide +kernel) (nx_sb (by omega)) ⟨(nw_vbr (by omega)), (nw_vbr (by omega)), trivial⟩ ⟨(nw_vbr (by omega)), trivial⟩ rfl rfl (Nat.le_of_ble_eq_true rfl) (Nat.le_of_ble_eq_true rfl) (fun ad1 o1 => ?_)
  have f4 : nw_fr (am_up (am_up (am_up r 314 0 (.ref 3)) 314 1 (.ref 4)) 314 2 (.ref 25)) h (316) := f3.mono (by omega)
  refine am_putRF (pc := 30) (ft := tyX6 3) C dX6_init_30 f6_27 (show 314 < 316 by omega) sh_314 rfl rfl rfl (tyX6_ok 3 (by decide)) (fun _ => ⟨rfl, rfl⟩) ?_
  have f5 : nw_fr (am_up (am_up (am_up (am_up r 314 0 (.ref 3)) 314 1 (.ref 4)) 314 2 (.ref 25)) 314 3 (.ref 315)) h (316) := f4.pr (by omega) (by omega)
  exact am_nret T o1 dX6_init_33 rfl (Nat.le_of_ble_eq_true rfl) (Nat.le_of_ble_eq_true rfl) ⟨rfl, rfl, f5⟩

def nk_X12_init (r : am_R) : am_R := am_up (am_up (am_up (am_up (am_up (am_up (am_up (am_up (am_up (am_up (am_up (am_up r 322 1 (.ref 323)) 322 2 (.ref 324)) 322 3 (.ref 325)) 322 4 (.ref 326)) 322 5 (.ref 327)) 322 8 (.ref 328)) 322 15 (.ref 329)) 322 17 (.ref 330)) 322 18 (.ref 331)) 322 19 (.ref 332)) 322 20 (.ref 333)) 322 21 (.ref 334)
def nh_X12_init (h : am_H) : am_H := am_up (am_up h 322 14 (-1)) 323 10 (nI 1)
set_option maxHeartbeats 4000000 in
set_option maxRecDepth 100000 in
theorem nc_X12_init {ad : Nat → Nat} {r : am_R} {h : am_H} (fr : nw_fr r h 323) : am_NM mX12_init 1 12 58145 [.ref 322] ad 323 335 am_SH r h (nw_Q (nk_X12_init r) (nh_X12_init h) 335) := by
  refine am_NM.of (by decide +kernel) (Nat.le_of_ble_eq_true rfl) (fun X C hO T => ?_)
  show am_G X (ad, 323, am_SH) (0, 0) 0 [(0, .ref 322)] [] r h
  refine am_aload_n (pc := 0) C dX12_init_0 rfl ?_
  refine am_objInit (pc := 1) C dX12_init_1 (am_mem 1751 (by decide +kernel) rfl) (by decide) (Nat.le_of_ble_eq_true rfl) ?_
  refine am_aload_n (pc := 4) C dX12_init_4 rfl ?_
  refine am_sipush (pc := 5) (v := nI 2429) C dX12_init_5 (by decide) ?_
  refine nx_newa1 (pc := 8) (N := 2429) (m := 324) (cz := (1, 2429)) C dX12_init_8 fr sh_323 (by decide +kernel) (by decide +kernel) (by decide +kernel) (nx_sb (by omega)) ⟨(nw_vbr (by omega)), trivial⟩ ⟨(nw_vbr (by omega)), trivial⟩ rfl rfl (Nat.le_of_ble_eq_true rfl) (Nat.le_of_ble_eq_true rfl) (fun ad1 o1 => ?_)
  have f1 : nw_fr r h (324) := fr.mono (by omega)
  refine am_putRF (pc := 10) (ft := tyX12 1) C dX12_init_10 f12_13 (show 322 < 324 by omega) sh_322 rfl rfl rfl (tyX12_ok 1 (by decide)) (fun _ => ⟨rfl, rfl⟩) ?_
  have f2 : nw_fr (am_up r 322 1 (.ref 323)) h (324) := f1.pr (by omega) (by omega)
  refine am_aload_n (pc := 13) C dX12_init_13 rfl ?_
  refine am_sipush (pc := 14) (v := nI 1580) C dX12_init_14 (by decide) ?_
  refine nx_newa1 (pc := 17) (N := 1580) (m := 325) (cz := (2, 4009)) C dX12_init_17 f2 sh_324 (by decide +kernel) (by decide +kernel) (by decide +kernel) (nx_sb (by omega)) ⟨(nw_vbr (by omega)), trivial⟩ ⟨(nw_vbr (by omega)), trivial⟩ rfl rfl (Nat.le_of_ble_eq_true rfl) (Nat.le_of_ble_eq_true rfl) (fun ad2 o2 => ?_)
  have f3 : nw_fr (am_up r 322 1 (.ref 323)) h (325) := f2.mono (by omega)
  have ok2 : nw_ok 323 (325) ad ad2 := nw_ok_tr ⟨by omega, by omega⟩ o1 o2
  refine am_putRF (pc := 19) (ft := tyX12 2) C dX12_init_19 f12_17 (show 322 < 325 by omega) sh_322 rfl rfl rfl (tyX12_ok 2 (by decide)) (fun _ => ⟨rfl, rfl⟩) ?_
  have f4 : nw_fr (am_up (am_up r 322 1 (.ref 323)) 322 2 (.ref 324)) h (325) := f3.pr (by omega) (by omega)
  refine am_aload_n (pc := 22) C dX12_init_22 rfl ?_
  refine am_sipush (pc := 23) (v := nI 1580) C dX12_init_23 (by decide) ?_
  refine nx_newa1 (pc := 26) (N := 1580) (m := 326) (cz := (3, 5589)) C dX12_init_26 f4 sh_325 (by decide +kernel) (by decide +kernel) (by decide +kernel) (nx_sb (by omega)) ⟨(nw_vbr (by omega)), trivial⟩ ⟨(nw_vbr (by omega)), trivial⟩ rfl rfl (Nat.le_of_ble_eq_true rfl) (Nat.le_of_ble_eq_true rfl) (fun ad3 o3 => ?_)
  have f5 : nw_fr (am_up (am_up r 322 1 (.ref 323)) 322 2 (.ref 324)) h (326) := f4.mono (by omega)
  have ok3 : nw_ok 323 (326) ad ad3 := nw_ok_tr ⟨by omega, by omega⟩ ok2 o3
  refine am_putRF (pc := 28) (ft := tyX12 3) C dX12_init_28 f12_20 (show 322 < 326 by omega) sh_322 rfl rfl rfl (tyX12_ok 3 (by decide)) (fun _ => ⟨rfl, rfl⟩) ?_
  have f6 : nw_fr (am_up (am_up (am_up r 322 1 (.ref 323)) 322 2 (.ref 324)) 322 3 (.ref 325)) h (326) := f5.pr (by omega) (by omega)
  refine am_aload_n (pc := 31) C dX12_init_31 rfl ?_
  refine am_sipush (pc := 32) (v := nI 731) C dX12_init_32 (by decide) ?_
  refine nx_newa1 (pc := 35) (N := 731) (m := 327) (cz := (4, 6320)) C dX12_init_35 f6 sh_326 (by decide +kernel) (by decide +kernel) (by decide +kernel) (nx_sb (by omega)) ⟨(nw_vbr (by omega)), trivial⟩ ⟨(nw_vbr (by omega)), trivial⟩ rfl rfl (Nat.le_of_ble_eq_true rfl) (Nat.le_of_ble_eq_true rfl) (fun ad4 o4 => ?_)
  have f7 : nw_fr (am_up (am_up (am_up r 322 1 (.ref 323)) 322 2 (.ref 324)) 322 3 (.ref 325)) h (327) := f6.mono (by omega)
  have ok4 : nw_ok 323 (327) ad ad4 := nw_ok_tr ⟨by omega, by omega⟩ ok3 o4
  refine am_putRF (pc := 37) (ft := tyX12 4) C dX12_init_37 f12_23 (show 322 < 327 by omega) sh_322 rfl rfl rfl (tyX12_ok 4 (by decide)) (fun _ => ⟨rfl, rfl⟩) ?_
  have f8 : nw_fr (am_up (am_up (am_up (am_up r 322 1 (.ref 323)) 322 2 (.ref 324)) 322 3 (.ref 325)) 322 4 (.ref 326)) h (327) := f7.pr (by omega) (by omega)
  refine am_aload_n (pc := 40) C dX12_init_40 rfl ?_
  refine am_sipush (pc := 41) (v := nI 8772) C dX12_init_41 (by decide) ?_
  refine nx_newa1 (pc := 44) (N := 8772) (m := 328) (cz := (5, 15092)) C dX12_init_44 f8 sh_327 (by decide +kernel) (by decide +kernel) (by decide +kernel) (nx_sb (by omega)) ⟨(nw_vbr (by omega)), trivial⟩ ⟨(nw_vbr (by omega)), trivial⟩ rfl rfl (Nat.le_of_ble_eq_true rfl) (Nat.le_of_ble_eq_true rfl) (fun ad5 o5 => ?_)
  have f9 : nw_fr (am_up (am_up (am_up (am_up r 322 1 (.ref 323)) 322 2 (.ref 324)) 322 3 (.ref 325)) 322 4 (.ref 326)) h (328) := f8.mono (by omega)
  have ok5 : nw_ok 323 (328) ad ad5 := nw_ok_tr ⟨by omega, by omega⟩ ok4 o5
  refine am_putRF (pc := 46) (ft := tyX12 5) C dX12_init_46 f12_26 (show 322 < 328 by omega) sh_322 rfl rfl rfl (tyX12_ok 5 (by decide)) (fun _ => ⟨rfl, rfl⟩) ?_
  have f10 : nw_fr (am_up (am_up (am_up (am_up (am_up r 322 1 (.ref 323)) 322 2 (.ref 324)) 322 3 (.ref 325)) 322 4 (.ref 326)) 322 5 (.ref 327)) h (328) := f9.pr (by omega) (by omega)
  refine am_aload_n (pc := 49) C dX12_init_49 rfl ?_
  refine am_sipush (pc := 50) (v := nI 400) C dX12_init_50 (by decide) ?_
  refine nx_newa2 (pc := 53) (N := 400) (m := 329) (cz := (6, 15492)) C dX12_init_53 f10 sh_328 (by decide +kernel) (by decide +kernel) (by decide +kernel) (nx_sb (by omega)) ⟨(nw_vbr (by omega)), trivial⟩ ⟨(nw_vbr (by omega)), trivial⟩ rfl rfl (Nat.le_of_ble_eq_true rfl) (Nat.le_of_ble_eq_true rfl) (fun ad6 o6 => ?_)
  have f11 : nw_fr (am_up (am_up (am_up (am_up (am_up r 322 1 (.ref 323)) 322 2 (.ref 324)) 322 3 (.ref 325)) 322 4 (.ref 326)) 322 5 (.ref 327)) h (329) := f10.mono (by omega)
  have ok6 : nw_ok 323 (329) ad ad6 := nw_ok_tr ⟨by omega, by omega⟩ ok5 o6
  refine am_putRF (pc := 55) (ft := tyX12 8) C dX12_init_55 f12_29 (show 322 < 329 by omega) sh_322 rfl rfl rfl (tyX12_ok 8 (by decide)) (fun _ => ⟨rfl, rfl⟩) ?_
  have f12 : nw_fr (am_up (am_up (am_up (am_up (am_up (am_up r 322 1 (.ref 323)) 322 2 (.ref 324)) 322 3 (.ref 325)) 322 4 (.ref 326)) 322 5 (.ref 327)) 322 8 (.ref 328)) h (329) := f11.pr (by omega) (by omega)
  refine am_aload_n (pc := 58) C dX12_init_58 rfl ?_
  refine am_iconst (pc := 59) (v := (-1)) C dX12_init_59 rfl ?_
  refine am_putI (pc := 60) C dX12_init_60 f12_33 (show 322 < 329 by omega) sh_322 rfl rfl ?_
  have f13 : nw_fr (am_up (am_up (am_up (am_up (am_up (am_up r 322 1 (.ref 323)) 322 2 (.ref 324)) 322 3 (.ref 325)) 322 4 (.ref 326)) 322 5 (.ref 327)) 322 8 (.ref 328)) (am_up h 322 14 (-1)) (329) := f12.ph (by omega)
  refine am_aload_n (pc := 63) C dX12_init_63 rfl ?_
  refine am_iconstN (pc := 64) (k := 5) C dX12_init_64 ?_
  refine nx_newa1 (pc := 65) (N := 5) (m := 330) (cz := (7, 15497)) C dX12_init_65 f13 sh_329 (by decide +kernel) (by decide +kernel) (by decide +kernel) (nx_sb (by omega)) ⟨(nw_vbr (by omega)), trivial⟩ ⟨(nw_vbr (by omega)), trivial⟩ rfl rfl (Nat.le_of_ble_eq_true rfl) (Nat.le_of_ble_eq_true rfl) (fun ad7 o7 => ?_)
  have f14 : nw_fr (am_up (am_up (am_up (am_up (am_up (am_up r 322 1 (.ref 323)) 322 2 (.ref 324)) 322 3 (.ref 325)) 322 4 (.ref 326)) 322 5 (.ref 327)) 322 8 (.ref 328)) (am_up h 322 14 (-1)) (330) := f13.mono (by omega)
  have ok7 : nw_ok 323 (330) ad ad7 := nw_ok_tr ⟨by omega, by omega⟩ ok6 o7
  refine am_putRF (pc := 67) (ft := tyX12 15) C dX12_init_67 f12_36 (show 322 < 330 by omega) sh_322 rfl rfl rfl (tyX12_ok 15 (by decide)) (fun _ => ⟨rfl, rfl⟩) ?_
  have f15 : nw_fr (am_up (am_up (am_up (am_up (am_up (am_up (am_up r 322 1 (.ref 323)) 322 2 (.ref 324)) 322 3 (.ref 325)) 322 4 (.ref 326)) 322 5 (.ref 327)) 322 8 (.ref 328)) 322 15 (.ref 329)) (am_up h 322 14 (-1)) (330) := f14.pr (by omega) (by omega)
  refine am_aload_n (pc := 70) C dX12_init_70 rfl ?_
  refine am_sipush (pc := 71) (v := nI 400) C dX12_init_71 (by decide) ?_
  refine nx_newa1 (pc := 74) (N := 400) (m := 331) (cz := (8, 15897)) C dX12_init_74 f15 sh_330 (by decide +kernel) (by decide +kernel) (by decide +kernel) (nx_sb (by omega)) ⟨(nw_vbr (by omega)), trivial⟩ ⟨(nw_vbr (by omega)), trivial⟩ rfl rfl (Nat.le_of_ble_eq_true rfl) (Nat.le_of_ble_eq_true rfl) (fun ad8 o8 => ?_)
  have f16 : nw_fr (am_up (am_up (am_up (am_up (am_up (am_up (am_up r 322 1 (.ref 323)) 322 2 (.ref 324)) 322 3 (.ref 325)) 322 4 (.ref 326)) 322 5 (.ref 327)) 322 8 (.ref 328)) 322 15 (.ref 329)) (am_up h 322 14 (-1)) (331) := f15.mono (by omega)
  have ok8 : nw_ok 323 (331) ad ad8 := nw_ok_tr ⟨by omega, by omega⟩ ok7 o8
  refine am_putRF (pc := 76) (ft := tyX12 17) C dX12_init_76 f12_39 (show 322 < 331 by omega) sh_322 rfl rfl rfl (tyX12_ok 17 (by decide)) (fun _ => ⟨rfl, rfl⟩) ?_
  have f17 : nw_fr (am_up (am_up (am_up (am_up (am_up (am_up (am_up (am_up r 322 1 (.ref 323)) 322 2 (.ref 324)) 322 3 (.ref 325)) 322 4 (.ref 326)) 322 5 (.ref 327)) 322 8 (.ref 328)) 322 15 (.ref 329)) 322 17 (.ref 330)) (am_up h 322 14 (-1)) (331) := f16.pr (by omega) (by omega)
  refine am_aload_n (pc := 79) C dX12_init_79 rfl ?_
  refine am_ldci (pc := 80) (v := 32768) C dX12_init_80 (am_mem 1752 (by decide +kernel) rfl) ?_
  refine am_top (show (32768 : Int32) = nI 32768 from by decide) ?_
  refine nx_newa3 (pc := 82) (N := 32768) (m := 332) (cz := (9, 48665)) C dX12_init_82 f17 sh_331 (by decide +kernel) (by decide +kernel) (by decide +kernel) (nx_sb (by omega)) ⟨(nw_vbr (by omega)), trivial⟩ ⟨(nw_vbr (by omega)), trivial⟩ rfl rfl (Nat.le_of_ble_eq_true rfl) (Nat.le_of_ble_eq_true rfl) (fun ad9 o9 => ?_)
  have f18 : nw_fr (am_up (am_up (am_up (am_up (am_up (am_up (am_up (am_up r 322 1 (.ref 323)) 322 2 (.ref 324)) 322 3 (.ref 325)) 322 4 (.ref 326)) 322 5 (.ref 327)) 322 8 (.ref 328)) 322 15 (.ref 329)) 322 17 (.ref 330)) (am_up h 322 14 (-1)) (332) := f17.mono (by omega)
  have ok9 : nw_ok 323 (332) ad ad9 := nw_ok_tr ⟨by omega, by omega⟩ ok8 o9
  refine am_putRF (pc := 84) (ft := tyX12 18) C dX12_init_84 f12_43 (show 322 < 332 by omega) sh_322 rfl rfl rfl (tyX12_ok 18 (by decide)) (fun _ => ⟨rfl, rfl⟩) ?_
  have f19 : nw_fr (am_up (am_up (am_up (am_up (am_up (am_up (am_up (am_up (am_up r 322 1 (.ref 323)) 322 2 (.ref 324)) 322 3 (.ref 325)) 322 4 (.ref 326)) 322 5 (.ref 327)) 322 8 (.ref 328)) 322 15 (.ref 329)) 322 17 (.ref 330)) 322 18 (.ref 331)) (am_up h 322 14 (-1)) (332) := f18.pr (by omega) (by omega)
  refine am_aload_n (pc := 87) C dX12_init_87 rfl ?_
  refine am_sipush (pc := 88) (v := nI 256) C dX12_init_88 (by decide) ?_
  refine nx_newa3 (pc := 91) (N := 256) (m := 333) (cz := (10, 48921)) C dX12_init_91 f19 sh_332 (by decide +kernel) (by decide +kernel) (by decide +kernel) (nx_sb (by omega)) ⟨(nw_vbr (by omega)), trivial⟩ ⟨(nw_vbr (by omega)), trivial⟩ rfl rfl (Nat.le_of_ble_eq_true rfl) (Nat.le_of_ble_eq_true rfl) (fun ad10 o10 => ?_)
  have f20 : nw_fr (am_up (am_up (am_up (am_up (am_up (am_up (am_up (am_up (am_up r 322 1 (.ref 323)) 322 2 (.ref 324)) 322 3 (.ref 325)) 322 4 (.ref 326)) 322 5 (.ref 327)) 322 8 (.ref 328)) 322 15 (.ref 329)) 322 17 (.ref 330)) 322 18 (.ref 331)) (am_up h 322 14 (-1)) (333) := f19.mono (by omega)
  have ok10 : nw_ok 323 (333) ad ad10 := nw_ok_tr ⟨by omega, by omega⟩ ok9 o10
  refine am_putRF (pc := 93) (ft := tyX12 19) C dX12_init_93 f12_47 (show 322 < 333 by omega) sh_322 rfl rfl rfl (tyX12_ok 19 (by decide)) (fun _ => ⟨rfl, rfl⟩) ?_
  have f21 : nw_fr (am_up (am_up (am_up (am_up (am_up (am_up (am_up (am_up (am_up (am_up r 322 1 (.ref 323)) 322 2 (.ref 324)) 322 3 (.ref 325)) 322 4 (.ref 326)) 322 5 (.ref 327)) 322 8 (.ref 328)) 322 15 (.ref 329)) 322 17 (.ref 330)) 322 18 (.ref 331)) 322 19 (.ref 332)) (am_up h 322 14 (-1)) (333) := f20.pr (by omega) (by omega)
  refine am_aload_n (pc := 96) C dX12_init_96 rfl ?_
  refine am_bipush (pc := 97) (v := nI 8) C dX12_init_97 (by decide) ?_
  refine nx_newa1 (pc := 99) (N := 8) (m := 334) (cz := (11, 48929)) C dX12_init_99 f21 sh_333 (by decide +kernel) (by decide +kernel) (by decide +kernel) (nx_sb (by omega)) ⟨(nw_vbr (by omega)), trivial⟩ ⟨(nw_vbr (by omega)), trivial⟩ rfl rfl (Nat.le_of_ble_eq_true rfl) (Nat.le_of_ble_eq_true rfl) (fun ad11 o11 => ?_)
  have f22 : nw_fr (am_up (am_up (am_up (am_up (am_up (am_up (am_up (am_up (am_up (am_up r 322 1 (.ref 323)) 322 2 (.ref 324)) 322 3 (.ref 325)) 322 4 (.ref 326)) 322 5 (.ref 327)) 322 8 (.ref 328)) 322 15 (.ref 329)) 322 17 (.ref 330)) 322 18 (.ref 331)) 322 19 (.ref 332)) (am_up h 322 14 (-1)) (334) := f21.mono (by omega)
  have ok11 : nw_ok 323 (334) ad ad11 := nw_ok_tr ⟨by omega, by omega⟩ ok10 o11
  refine am_putRF (pc := 101) (ft := tyX12 20) C dX12_init_101 f12_50 (show 322 < 334 by omega) sh_322 rfl rfl rfl (tyX12_ok 20 (by decide)) (fun _ => ⟨rfl, rfl⟩) ?_
  have f23 : nw_fr (am_up (am_up (am_up (am_up (am_up (am_up (am_up (am_up (am_up (am_up (am_up r 322 1 (.ref 323)) 322 2 (.ref 324)) 322 3 (.ref 325)) 322 4 (.ref 326)) 322 5 (.ref 327)) 322 8 (.ref 328)) 322 15 (.ref 329)) 322 17 (.ref 330)) 322 18 (.ref 331)) 322 19 (.ref 332)) 322 20 (.ref 333)) (am_up h 322 14 (-1)) (334) := f22.pr (by omega) (by omega)
  refine am_aload_n (pc := 104) C dX12_init_104 rfl ?_
  refine am_sipush (pc := 105) (v := nI 9216) C dX12_init_105 (by decide) ?_
  refine nx_newa1 (pc := 108) (N := 9216) (m := 335) (cz := (12, 58145)) C dX12_init_108 f23 sh_334 (by decide +kernel) (by decide +kernel) (by decide +kernel) (nx_sb (by omega)) ⟨(nw_vbr (by omega)), trivial⟩ ⟨(nw_vbr (by omega)), trivial⟩ rfl rfl (Nat.le_of_ble_eq_true rfl) (Nat.le_of_ble_eq_true rfl) (fun ad12 o12 => ?_)
  have f24 : nw_fr (am_up (am_up (am_up (am_up (am_up (am_up (am_up (am_up (am_up (am_up (am_up r 322 1 (.ref 323)) 322 2 (.ref 324)) 322 3 (.ref 325)) 322 4 (.ref 326)) 322 5 (.ref 327)) 322 8 (.ref 328)) 322 15 (.ref 329)) 322 17 (.ref 330)) 322 18 (.ref 331)) 322 19 (.ref 332)) 322 20 (.ref 333)) (am_up h 322 14 (-1)) (335) := f23.mono (by omega)
  have ok12 : nw_ok 323 (335) ad ad12 := nw_ok_tr ⟨by omega, by omega⟩ ok11 o12
  refine am_putRF (pc := 110) (ft := tyX12 21) C dX12_init_110 f12_53 (show 322 < 335 by omega) sh_322 rfl rfl rfl (tyX12_ok 21 (by decide)) (fun _ => ⟨rfl, rfl⟩) ?_
  have f25 : nw_fr (am_up (am_up (am_up (am_up (am_up (am_up (am_up (am_up (am_up (am_up (am_up (am_up r 322 1 (.ref 323)) 322 2 (.ref 324)) 322 3 (.ref 325)) 322 4 (.ref 326)) 322 5 (.ref 327)) 322 8 (.ref 328)) 322 15 (.ref 329)) 322 17 (.ref 330)) 322 18 (.ref 331)) 322 19 (.ref 332)) 322 20 (.ref 333)) 322 21 (.ref 334)) (am_up h 322 14 (-1)) (335) := f24.pr (by omega) (by omega)
  refine am_aload_n (pc := 113) C dX12_init_113 rfl ?_
  refine am_getR (pc := 114) (j := 323) C dX12_init_114 f12_13 (show 322 < 335 by omega) sh_322 rfl ?_
  refine am_bipush (pc := 117) (v := nI 10) C dX12_init_117 (by decide) ?_
  refine am_iconstN (pc := 119) (k := 1) C dX12_init_119 ?_
  refine am_iastore (pc := 120) (n := 2429) C dX12_init_120 (show 323 < 335 by omega) sh_323 (vp_in_nI (by omega) (by decide)) ?_
  refine am_hp (show am_up (am_up h 322 14 (-1)) 323 (nI 10).toNatClampNeg (nI 1) = am_up (am_up h 322 14 (-1)) 323 10 (nI 1) from by rw [nI_clamp (by omega)]) ?_
  have f26 : nw_fr (am_up (am_up (am_up (am_up (am_up (am_up (am_up (am_up (am_up (am_up (am_up (am_up r 322 1 (.ref 323)) 322 2 (.ref 324)) 322 3 (.ref 325)) 322 4 (.ref 326)) 322 5 (.ref 327)) 322 8 (.ref 328)) 322 15 (.ref 329)) 322 17 (.ref 330)) 322 18 (.ref 331)) 322 19 (.ref 332)) 322 20 (.ref 333)) 322 21 (.ref 334)) (am_up (am_up h 322 14 (-1)) 323 10 (nI 1)) (335) := f25.ph (by omega)
  exact am_nret T ok12 dX12_init_121 rfl (Nat.le_of_ble_eq_true rfl) (Nat.le_of_ble_eq_true rfl) ⟨rfl, rfl, f26⟩

end NEWK1
