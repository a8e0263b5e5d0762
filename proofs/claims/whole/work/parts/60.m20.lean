/-! THE CLASS: plans, orders, duels, treaties -/
section M20
variable {w : rf_W}
theorem am_oi_m1 {b : Nat} (hb : b < 2147483648) : am_oi b = -1 ↔ b = 0 := by
  constructor
  · intro h
    exact (am_oi_lt hb).mp (by rw [h]; decide)
  · rintro rfl; decide
theorem am_icmp_eqO {M : am_M} {D MC MS : Nat} {X : am_X} {V : am_V} {cs : Nat × Nat} {pc : Nat} {ls : List (Nat × Value)} {st : List Value} {r : am_R} {h : am_H} {b : Nat} {off : Int} {tgt : Nat} (C : am_C M D MC MS X) (hd : decode M.2.1 pc = .ok (.if_icmp .eq off, 3)) (ht : (pc : Int) + off = (tgt : Int)) (hb : b < 2147483648) (kt : b = 0 → am_G X V cs tgt ls st r h) (kf : 0 < b → am_G X V cs (pc + 3) ls st r h) : am_G X V cs pc ls (.int (-1) :: .int (am_oi b) :: st) r h :=
  am_icmp_eq C hd ht (fun q => kt ((am_oi_m1 hb).mp q)) (fun q => kf (Nat.pos_of_ne_zero fun e => q ((am_oi_m1 hb).mpr e)))
theorem am_icmp_neO {M : am_M} {D MC MS : Nat} {X : am_X} {V : am_V} {cs : Nat × Nat} {pc : Nat} {ls : List (Nat × Value)} {st : List Value} {r : am_R} {h : am_H} {b : Nat} {off : Int} {tgt : Nat} (C : am_C M D MC MS X) (hd : decode M.2.1 pc = .ok (.if_icmp .ne off, 3)) (ht : (pc : Int) + off = (tgt : Int)) (hb : b < 2147483648) (kt : 0 < b → am_G X V cs tgt ls st r h) (kf : b = 0 → am_G X V cs (pc + 3) ls st r h) : am_G X V cs pc ls (.int (-1) :: .int (am_oi b) :: st) r h :=
  am_icmp_ne C hd ht (fun q => kt (Nat.pos_of_ne_zero fun e => q ((am_oi_m1 hb).mpr e))) (fun q => kf ((am_oi_m1 hb).mp q))
theorem rf_ol_y4 {side m : Nat} {g : Bool} (h : am_bt (w (11 + side)) m = true ∧ ((rf_ol w side g m).1 = 0 ∨ rf_osum w (nI side) m g (rf_S w) + 1 < (rf_ol w side g m).2)) : nI (rf_osum w (nI side) m g (rf_S w)) = nI ((rf_ol w side g (m + 1)).2 - 1) := by rw [rf_ol_yes h]; exact congrArg nI (Nat.add_sub_cancel _ 1).symm
theorem rf_ol_n4 {side m : Nat} {g : Bool} (h : ¬ (am_bt (w (11 + side)) m = true ∧ ((rf_ol w side g m).1 = 0 ∨ rf_osum w (nI side) m g (rf_S w) + 1 < (rf_ol w side g m).2))) : nI ((rf_ol w side g m).2 - 1) = nI ((rf_ol w side g (m + 1)).2 - 1) := by rw [rf_ol_no h]
theorem rf_max_c {x y : Int32} : rf_max x y = rf_max y x := by
  rw [rf_max, rf_max]
  by_cases h1 : x < y
  · rw [if_pos h1, if_neg (Int32.not_lt.mpr (Int32.le_of_lt h1))]
  · rw [if_neg h1]
    by_cases h2 : y < x
    · rw [if_pos h2]
    · rw [if_neg h2]
      exact Int32.le_antisymm (Int32.not_lt.mp h2) (Int32.not_lt.mp h1)
theorem rf_lack_le {side k m a : Nat} (ha : a < 2147483648) : rf_lack w side k m ≤ nI a ↔ nI k - rf_pc (rf_usersOf w (nI side) m) ≤ nI a := by
  rw [rf_lack, rf_max]
  split
  · exact Iff.rfl
  · rename_i h
    constructor
    · intro _
      exact Int32.le_trans (Int32.not_lt.mp h) ((nI_leI (by decide) ha).mpr (Nat.zero_le a))
    · intro _; exact (nI_leI (by decide) ha).mpr (Nat.zero_le a)
def rf_dm (p : Nat × Int32) : Int32 := if p.1 = 0 then nI 0 else p.2
theorem rf_dm_lt {o : Nat} {x : Int32} (h0 : 0 < (rf_dl w o).1) (h : ¬ rf_dm (rf_dl w o) ≤ x) : x < (rf_dl w o).2 := by
  rw [rf_dm, if_neg (by omega)] at h
  exact Int32.not_le.mp h
theorem rf_dm_ge {o : Nat} {x : Int32} (h0 : 0 < (rf_dl w o).1) (h : rf_dm (rf_dl w o) ≤ x) : ¬ x < (rf_dl w o).2 := by
  rw [rf_dm, if_neg (by omega)] at h
  exact Int32.not_lt.mpr h
theorem rf_dm_y {o : Nat} (h : (rf_dl w o).1 = 0 ∨ rf_pc (rf_bearsAll w (rf_ord w o 1)) < (rf_dl w o).2) : rf_pc (rf_bearsAll w (rf_ord w o 1)) = rf_dm (rf_dl w (o + 1)) := by rw [rf_dl_yes h, rf_dm, if_neg (by show ¬ o + 1 = 0; omega)]
theorem rf_dm_n {o : Nat} (h : ¬ ((rf_dl w o).1 = 0 ∨ rf_pc (rf_bearsAll w (rf_ord w o 1)) < (rf_dl w o).2)) : rf_dm (rf_dl w o) = rf_dm (rf_dl w (o + 1)) := by rw [rf_dl_no h]
theorem rf_roots_lo {set : Int32} (hM : rf_M w ≤ 16) : am_lo (rf_roots w set) 16 := am_lo_mono (rf_set_lo (by omega)) hM
def rf_un (w : rf_W) (set : Int32) : Nat → Int32
  | 0 => -1
  | m + 1 => if am_bt set m = true then (if rf_un w set m = -1 then rf_min (rf_pc (rf_users w m &&& rf_sideOf w (nI 0))) (rf_pc (rf_users w m &&& rf_sideOf w (nI 1))) else rf_min (rf_un w set m) (rf_min (rf_pc (rf_users w m &&& rf_sideOf w (nI 0))) (rf_pc (rf_users w m &&& rf_sideOf w (nI 1))))) else rf_un w set m
end M20

set_option maxHeartbeats 400000 in
set_option maxRecDepth 100000 in
theorem c_X6_weakestOfPlan {ad : Nat → Nat} {r : am_R} (hR : am_rs r) {h : am_H} (d : Nat) (good : Bool) (w : rf_W) (hV : rf_I w) (hLo : cl_Lo (h) 4 w) (hSc : cl_Sc (h) 25 w) (hd : d < 2)  : am_CM mX6_weakestOfPlan 4 0 0 [.ref 314, .int (nI d), .int (am_b good)] (am_VV ad) r h (am_po (some (.int (am_oi ((rf_ol w d good (rf_M w)).1)))) r h) := by
  refine am_CM.of (by decide +kernel) (Nat.le_of_ble_eq_true rfl) (fun X C T => ?_)
  show am_G X (am_VV ad) (0, 0) 0 [(0, .ref 314), (1, .int (nI d)), (2, .int (am_b good))] [] r h
  have hM9 : rf_M w < 17 := hV.1.1.2
  have hS9 : rf_S w < 11 := hV.1.2.1.2
  have hO9 : rf_O w < 11 := hV.1.2.2.2
  refine am_iconst (pc := 0) (v := -1) C dX6_weakestOfPlan_0 rfl ?_
  refine am_istore_n (pc := 1) (ls' := [(0, .ref 314), (1, .int (nI d)), (2, .int (am_b good)), (3, .int (-1))]) C dX6_weakestOfPlan_1 (by decide) rfl ?_
  refine am_iconstN (pc := 2) (k := 0) C dX6_weakestOfPlan_2 ?_
  refine am_istore (pc := 3) (ls' := [(0, .ref 314), (1, .int (nI d)), (2, .int (am_b good)), (3, .int (-1)), (4, .int (nI 0))]) C dX6_weakestOfPlan_3 (by decide) rfl ?_
  refine am_iconstN (pc := 5) (k := 0) C dX6_weakestOfPlan_5 ?_
  refine am_istore (pc := 6) (ls' := [(0, .ref 314), (1, .int (nI d)), (2, .int (am_b good)), (3, .int (-1)), (4, .int (nI 0)), (5, .int (nI 0))]) C dX6_weakestOfPlan_6 (by decide) rfl ?_
  have L8 : ∀ (j8 i8 : Nat), i8 + j8 = rf_M w → am_G X (am_VV ad) (0, 0) 8 [(0, .ref 314), (1, .int (nI d)), (2, .int (am_b good)), (3, .int (am_oi ((rf_ol w d good i8).1))), (4, .int (nI ((rf_ol w d good i8).2 - 1))), (5, .int (nI i8))] [] r h := by
    intro j8
    induction j8 with
    | zero =>
      intro i8 hi8 
      obtain rfl : i8 = rf_M w := by omega
      refine am_iload (pc := 8) C dX6_weakestOfPlan_8 rfl ?_
      refine am_aload_n (pc := 10) C dX6_weakestOfPlan_10 rfl ?_
      refine am_getR (pc := 11) (j := 4) C dX6_weakestOfPlan_11 f6_21 bn_314 sh_314 (rf_314_1 hR) ?_
      refine am_getI (pc := 14) C dX6_weakestOfPlan_14 f6_67 bn_4 sh_4 ?_
      refine am_top (show ((h 4) 1) = (nI (rf_M w)) from (hLo.1.2.1.trans hV.1.1.1)) ?_
      refine am_icmp_geN (pc := 17) (tgt := 74) C dX6_weakestOfPlan_17 (by decide) (by omega) (by omega) (fun q17 => ?_) (fun q17 => ?_)
      · skip
        refine am_iload_n (pc := 74) C dX6_weakestOfPlan_74 rfl ?_
        exact am_ireti T dX6_weakestOfPlan_75 rfl (Nat.le_refl _) (Nat.le_refl _) rfl rfl rfl
      · skip
        exact absurd q17 (by omega)
    | succ j8 ih8 =>
      intro i8 hi8 
      have hl8 : i8 < rf_M w := by omega
      have ho9 := rf_ol_le (side := d) (g := good) hV i8
      have hos9 := rf_osum_le (side := nI d) (m := i8) (g := good) hV (rf_S w) (Nat.le_refl _)
      refine am_iload (pc := 8) C dX6_weakestOfPlan_8 rfl ?_
      refine am_aload_n (pc := 10) C dX6_weakestOfPlan_10 rfl ?_
      refine am_getR (pc := 11) (j := 4) C dX6_weakestOfPlan_11 f6_21 bn_314 sh_314 (rf_314_1 hR) ?_
      refine am_getI (pc := 14) C dX6_weakestOfPlan_14 f6_67 bn_4 sh_4 ?_
      refine am_top (show ((h 4) 1) = (nI (rf_M w)) from (hLo.1.2.1.trans hV.1.1.1)) ?_
      refine am_icmp_geN (pc := 17) (tgt := 74) C dX6_weakestOfPlan_17 (by decide) (by omega) (by omega) (fun q17 => ?_) (fun q17 => ?_)
      · skip
        exact absurd q17 (by omega)
      · skip
        refine am_aload_n (pc := 20) C dX6_weakestOfPlan_20 rfl ?_
        refine am_getR (pc := 21) (j := 4) C dX6_weakestOfPlan_21 f6_21 bn_314 sh_314 (rf_314_1 hR) ?_
        refine am_getR (pc := 24) (j := 16) C dX6_weakestOfPlan_24 f6_70 bn_4 sh_4 (rf_4_15 hR) ?_
        refine am_iload_n (pc := 27) C dX6_weakestOfPlan_27 rfl ?_
        refine am_callSNi (Y := mX11_pick) (pc := 28) (st := []) (As := [.ref 16, .int (nI d)]) (x := ((h 16) d)) (h2 := h) C dX6_weakestOfPlan_28 k6_40 v_X11_pick rfl rfl (by decide) (Nat.zero_le _) (Nat.zero_le _) (Nat.le_of_ble_eq_true rfl) (c_X11_pick 16 d 2 bn_16 sh_16 (show d < 2 from by omega) (by decide)) ?_
        refine am_top (show ((h 16) d) = (w (11 + d)) from (cl_plan hLo (by omega))) ?_
        refine am_iload (pc := 31) C dX6_weakestOfPlan_31 rfl ?_
        refine am_callSNi (Y := mX11_has) (pc := 33) (st := []) (As := [.int (w (11 + d)), .int (nI i8)]) (x := (am_b (am_bt (w (11 + d)) i8))) (h2 := h) C dX6_weakestOfPlan_33 k6_53 v_X11_has rfl rfl (by decide) (Nat.zero_le _) (Nat.zero_le _) (Nat.le_of_ble_eq_true rfl) (c_X11_has (w (11 + d)) i8 (show i8 < 32 from by omega)) ?_
        refine am_if_eqB (pc := 36) (tgt := 68) C dX6_weakestOfPlan_36 (by decide) (fun q36 => ?_) (fun q36 => ?_)
        · skip
          refine am_iincN (pc := 68) (ls' := [(0, .ref 314), (1, .int (nI d)), (2, .int (am_b good)), (3, .int (am_oi ((rf_ol w d good i8).1))), (4, .int (nI ((rf_ol w d good i8).2 - 1))), (5, .int (nI (i8 + 1)))]) C dX6_weakestOfPlan_68 rfl (am_up1 _) (by decide) rfl ?_
          refine am_goto (pc := 71) (tgt := 8) C dX6_weakestOfPlan_71 (by decide) ?_
          refine am_lsv (ls' := [(0, .ref 314), (1, .int (nI d)), (2, .int (am_b good)), (3, .int (am_oi ((rf_ol w d good (i8 + 1)).1))), (4, .int (nI ((rf_ol w d good i8).2 - 1))), (5, .int (nI (i8 + 1)))]) (congrArg (fun z9 : Int32 => ([(0, .ref 314), (1, .int (nI d)), (2, .int (am_b good)), (3, Value.int z9), (4, .int (nI ((rf_ol w d good i8).2 - 1))), (5, .int (nI (i8 + 1)))] : List (Nat × Value))) (show (am_oi ((rf_ol w d good i8).1)) = (am_oi ((rf_ol w d good (i8 + 1)).1)) from rf_ol_n1 (fun z => Bool.false_ne_true (q36.symm.trans z.1)))) ?_
          refine am_lsv (ls' := [(0, .ref 314), (1, .int (nI d)), (2, .int (am_b good)), (3, .int (am_oi ((rf_ol w d good (i8 + 1)).1))), (4, .int (nI ((rf_ol w d good (i8 + 1)).2 - 1))), (5, .int (nI (i8 + 1)))]) (congrArg (fun z9 : Int32 => ([(0, .ref 314), (1, .int (nI d)), (2, .int (am_b good)), (3, .int (am_oi ((rf_ol w d good (i8 + 1)).1))), (4, Value.int z9), (5, .int (nI (i8 + 1)))] : List (Nat × Value))) (show (nI ((rf_ol w d good i8).2 - 1)) = (nI ((rf_ol w d good (i8 + 1)).2 - 1)) from rf_ol_n4 (fun z => Bool.false_ne_true (q36.symm.trans z.1)))) ?_
          exact ih8 (i8 + 1) (by omega) 
        · skip
          refine am_aload_n (pc := 39) C dX6_weakestOfPlan_39 rfl ?_
          refine am_iload_n (pc := 40) C dX6_weakestOfPlan_40 rfl ?_
          refine am_iload (pc := 41) C dX6_weakestOfPlan_41 rfl ?_
          refine am_iload_n (pc := 43) C dX6_weakestOfPlan_43 rfl ?_
          refine am_callVi (Y := mX6_shotsAtSide) (pc := 44) (st := []) (As := [.int (nI d), .int (nI i8), .int (am_b good)]) (x := (nI (rf_osum w (nI d) i8 good (rf_S w)))) (h2 := h) C dX6_weakestOfPlan_44 k6_73 v_X6_shotsAtSide rfl rfl bn_314 sh_314 ⟨by decide, rfl⟩ (by decide) (Nat.zero_le _) (Nat.zero_le _) (Nat.le_of_ble_eq_true rfl) (c_X6_shotsAtSide hR (nI d) i8 good w hV hLo hSc (show i8 < rf_M w from by omega)) ?_
          refine am_istore (pc := 47) (ls' := [(0, .ref 314), (1, .int (nI d)), (2, .int (am_b good)), (3, .int (am_oi ((rf_ol w d good i8).1))), (4, .int (nI ((rf_ol w d good i8).2 - 1))), (5, .int (nI i8)), (6, .int (nI (rf_osum w (nI d) i8 good (rf_S w))))]) C dX6_weakestOfPlan_47 (by decide) rfl ?_
          refine am_iload_n (pc := 49) C dX6_weakestOfPlan_49 rfl ?_
          refine am_iconst (pc := 50) (v := -1) C dX6_weakestOfPlan_50 rfl ?_
          refine am_icmp_eqO (pc := 51) (tgt := 61) C dX6_weakestOfPlan_51 (by decide) (by omega) (fun q51 => ?_) (fun q51 => ?_)
          · skip
            refine am_iload (pc := 61) C dX6_weakestOfPlan_61 rfl ?_
            refine am_istore_n (pc := 63) (ls' := [(0, .ref 314), (1, .int (nI d)), (2, .int (am_b good)), (3, .int (nI i8)), (4, .int (nI ((rf_ol w d good i8).2 - 1))), (5, .int (nI i8)), (6, .int (nI (rf_osum w (nI d) i8 good (rf_S w))))]) C dX6_weakestOfPlan_63 (by decide) rfl ?_
            refine am_iload (pc := 64) C dX6_weakestOfPlan_64 rfl ?_
            refine am_istore (pc := 66) (ls' := [(0, .ref 314), (1, .int (nI d)), (2, .int (am_b good)), (3, .int (nI i8)), (4, .int (nI (rf_osum w (nI d) i8 good (rf_S w)))), (5, .int (nI i8)), (6, .int (nI (rf_osum w (nI d) i8 good (rf_S w))))]) C dX6_weakestOfPlan_66 (by decide) rfl ?_
            refine am_iincN (pc := 68) (ls' := [(0, .ref 314), (1, .int (nI d)), (2, .int (am_b good)), (3, .int (nI i8)), (4, .int (nI (rf_osum w (nI d) i8 good (rf_S w)))), (5, .int (nI (i8 + 1))), (6, .int (nI (rf_osum w (nI d) i8 good (rf_S w))))]) C dX6_weakestOfPlan_68 rfl (am_up1 _) (by decide) rfl ?_
            refine am_goto (pc := 71) (tgt := 8) C dX6_weakestOfPlan_71 (by decide) ?_
            refine am_sub (ls' := [(0, .ref 314), (1, .int (nI d)), (2, .int (am_b good)), (3, .int (nI i8)), (4, .int (nI (rf_osum w (nI d) i8 good (rf_S w)))), (5, .int (nI (i8 + 1)))]) (by intro q hq; simp only [List.mem_cons, List.not_mem_nil, or_false] at hq ⊢; rcases hq with rfl | rfl | rfl | rfl | rfl | rfl <;> simp) ?_
            refine am_lsv (ls' := [(0, .ref 314), (1, .int (nI d)), (2, .int (am_b good)), (3, .int (am_oi ((rf_ol w d good (i8 + 1)).1))), (4, .int (nI (rf_osum w (nI d) i8 good (rf_S w)))), (5, .int (nI (i8 + 1)))]) (congrArg (fun z9 : Int32 => ([(0, .ref 314), (1, .int (nI d)), (2, .int (am_b good)), (3, Value.int z9), (4, .int (nI (rf_osum w (nI d) i8 good (rf_S w)))), (5, .int (nI (i8 + 1)))] : List (Nat × Value))) (show (nI i8) = (am_oi ((rf_ol w d good (i8 + 1)).1)) from rf_ol_y1 ⟨q36, Or.inl q51⟩)) ?_
            refine am_lsv (ls' := [(0, .ref 314), (1, .int (nI d)), (2, .int (am_b good)), (3, .int (am_oi ((rf_ol w d good (i8 + 1)).1))), (4, .int (nI ((rf_ol w d good (i8 + 1)).2 - 1))), (5, .int (nI (i8 + 1)))]) (congrArg (fun z9 : Int32 => ([(0, .ref 314), (1, .int (nI d)), (2, .int (am_b good)), (3, .int (am_oi ((rf_ol w d good (i8 + 1)).1))), (4, Value.int z9), (5, .int (nI (i8 + 1)))] : List (Nat × Value))) (show (nI (rf_osum w (nI d) i8 good (rf_S w))) = (nI ((rf_ol w d good (i8 + 1)).2 - 1)) from rf_ol_y4 ⟨q36, Or.inl q51⟩)) ?_
            exact ih8 (i8 + 1) (by omega) 
          · skip
            refine am_iload (pc := 54) C dX6_weakestOfPlan_54 rfl ?_
            refine am_iload (pc := 56) C dX6_weakestOfPlan_56 rfl ?_
            refine am_icmp_geN (pc := 58) (tgt := 68) C dX6_weakestOfPlan_58 (by decide) (by omega) (by omega) (fun q58 => ?_) (fun q58 => ?_)
            · skip
              refine am_iincN (pc := 68) (ls' := [(0, .ref 314), (1, .int (nI d)), (2, .int (am_b good)), (3, .int (am_oi ((rf_ol w d good i8).1))), (4, .int (nI ((rf_ol w d good i8).2 - 1))), (5, .int (nI (i8 + 1))), (6, .int (nI (rf_osum w (nI d) i8 good (rf_S w))))]) C dX6_weakestOfPlan_68 rfl (am_up1 _) (by decide) rfl ?_
              refine am_goto (pc := 71) (tgt := 8) C dX6_weakestOfPlan_71 (by decide) ?_
              refine am_sub (ls' := [(0, .ref 314), (1, .int (nI d)), (2, .int (am_b good)), (3, .int (am_oi ((rf_ol w d good i8).1))), (4, .int (nI ((rf_ol w d good i8).2 - 1))), (5, .int (nI (i8 + 1)))]) (by intro q hq; simp only [List.mem_cons, List.not_mem_nil, or_false] at hq ⊢; rcases hq with rfl | rfl | rfl | rfl | rfl | rfl <;> simp) ?_
              refine am_lsv (ls' := [(0, .ref 314), (1, .int (nI d)), (2, .int (am_b good)), (3, .int (am_oi ((rf_ol w d good (i8 + 1)).1))), (4, .int (nI ((rf_ol w d good i8).2 - 1))), (5, .int (nI (i8 + 1)))]) (congrArg (fun z9 : Int32 => ([(0, .ref 314), (1, .int (nI d)), (2, .int (am_b good)), (3, Value.int z9), (4, .int (nI ((rf_ol w d good i8).2 - 1))), (5, .int (nI (i8 + 1)))] : List (Nat × Value))) (show (am_oi ((rf_ol w d good i8).1)) = (am_oi ((rf_ol w d good (i8 + 1)).1)) from rf_ol_n1 (fun z => z.2.elim (by omega) (by omega)))) ?_
              refine am_lsv (ls' := [(0, .ref 314), (1, .int (nI d)), (2, .int (am_b good)), (3, .int (am_oi ((rf_ol w d good (i8 + 1)).1))), (4, .int (nI ((rf_ol w d good (i8 + 1)).2 - 1))), (5, .int (nI (i8 + 1)))]) (congrArg (fun z9 : Int32 => ([(0, .ref 314), (1, .int (nI d)), (2, .int (am_b good)), (3, .int (am_oi ((rf_ol w d good (i8 + 1)).1))), (4, Value.int z9), (5, .int (nI (i8 + 1)))] : List (Nat × Value))) (show (nI ((rf_ol w d good i8).2 - 1)) = (nI ((rf_ol w d good (i8 + 1)).2 - 1)) from rf_ol_n4 (fun z => z.2.elim (by omega) (by omega)))) ?_
              exact ih8 (i8 + 1) (by omega) 
            · skip
              refine am_iload (pc := 61) C dX6_weakestOfPlan_61 rfl ?_
              refine am_istore_n (pc := 63) (ls' := [(0, .ref 314), (1, .int (nI d)), (2, .int (am_b good)), (3, .int (nI i8)), (4, .int (nI ((rf_ol w d good i8).2 - 1))), (5, .int (nI i8)), (6, .int (nI (rf_osum w (nI d) i8 good (rf_S w))))]) C dX6_weakestOfPlan_63 (by decide) rfl ?_
              refine am_iload (pc := 64) C dX6_weakestOfPlan_64 rfl ?_
              refine am_istore (pc := 66) (ls' := [(0, .ref 314), (1, .int (nI d)), (2, .int (am_b good)), (3, .int (nI i8)), (4, .int (nI (rf_osum w (nI d) i8 good (rf_S w)))), (5, .int (nI i8)), (6, .int (nI (rf_osum w (nI d) i8 good (rf_S w))))]) C dX6_weakestOfPlan_66 (by decide) rfl ?_
              refine am_iincN (pc := 68) (ls' := [(0, .ref 314), (1, .int (nI d)), (2, .int (am_b good)), (3, .int (nI i8)), (4, .int (nI (rf_osum w (nI d) i8 good (rf_S w)))), (5, .int (nI (i8 + 1))), (6, .int (nI (rf_osum w (nI d) i8 good (rf_S w))))]) C dX6_weakestOfPlan_68 rfl (am_up1 _) (by decide) rfl ?_
              refine am_goto (pc := 71) (tgt := 8) C dX6_weakestOfPlan_71 (by decide) ?_
              refine am_sub (ls' := [(0, .ref 314), (1, .int (nI d)), (2, .int (am_b good)), (3, .int (nI i8)), (4, .int (nI (rf_osum w (nI d) i8 good (rf_S w)))), (5, .int (nI (i8 + 1)))]) (by intro q hq; simp only [List.mem_cons, List.not_mem_nil, or_false] at hq ⊢; rcases hq with rfl | rfl | rfl | rfl | rfl | rfl <;> simp) ?_
              refine am_lsv (ls' := [(0, .ref 314), (1, .int (nI d)), (2, .int (am_b good)), (3, .int (am_oi ((rf_ol w d good (i8 + 1)).1))), (4, .int (nI (rf_osum w (nI d) i8 good (rf_S w)))), (5, .int (nI (i8 + 1)))]) (congrArg (fun z9 : Int32 => ([(0, .ref 314), (1, .int (nI d)), (2, .int (am_b good)), (3, Value.int z9), (4, .int (nI (rf_osum w (nI d) i8 good (rf_S w)))), (5, .int (nI (i8 + 1)))] : List (Nat × Value))) (show (nI i8) = (am_oi ((rf_ol w d good (i8 + 1)).1)) from rf_ol_y1 ⟨q36, Or.inr (by omega)⟩)) ?_
              refine am_lsv (ls' := [(0, .ref 314), (1, .int (nI d)), (2, .int (am_b good)), (3, .int (am_oi ((rf_ol w d good (i8 + 1)).1))), (4, .int (nI ((rf_ol w d good (i8 + 1)).2 - 1))), (5, .int (nI (i8 + 1)))]) (congrArg (fun z9 : Int32 => ([(0, .ref 314), (1, .int (nI d)), (2, .int (am_b good)), (3, .int (am_oi ((rf_ol w d good (i8 + 1)).1))), (4, Value.int z9), (5, .int (nI (i8 + 1)))] : List (Nat × Value))) (show (nI (rf_osum w (nI d) i8 good (rf_S w))) = (nI ((rf_ol w d good (i8 + 1)).2 - 1)) from rf_ol_y4 ⟨q36, Or.inr (by omega)⟩)) ?_
              exact ih8 (i8 + 1) (by omega) 
  refine am_sub (ls' := [(0, .ref 314), (1, .int (nI d)), (2, .int (am_b good)), (3, .int (-1)), (4, .int (nI 0)), (5, .int (nI 0))]) (by intro q hq; simp only [List.mem_cons, List.not_mem_nil, or_false] at hq ⊢; rcases hq with rfl | rfl | rfl | rfl | rfl | rfl <;> simp) ?_
  refine am_lsv (ls' := [(0, .ref 314), (1, .int (nI d)), (2, .int (am_b good)), (3, .int (am_oi ((rf_ol w d good 0).1))), (4, .int (nI 0)), (5, .int (nI 0))]) (congrArg (fun z9 : Int32 => ([(0, .ref 314), (1, .int (nI d)), (2, .int (am_b good)), (3, Value.int z9), (4, .int (nI 0)), (5, .int (nI 0))] : List (Nat × Value))) (show (-1) = (am_oi ((rf_ol w d good 0).1)) from (by first | exact am_oi_0.symm | rfl))) ?_
  refine am_lsv (ls' := [(0, .ref 314), (1, .int (nI d)), (2, .int (am_b good)), (3, .int (am_oi ((rf_ol w d good 0).1))), (4, .int (nI ((rf_ol w d good 0).2 - 1))), (5, .int (nI 0))]) (congrArg (fun z9 : Int32 => ([(0, .ref 314), (1, .int (nI d)), (2, .int (am_b good)), (3, .int (am_oi ((rf_ol w d good 0).1))), (4, Value.int z9), (5, .int (nI 0))] : List (Nat × Value))) (show (nI 0) = (nI ((rf_ol w d good 0).2 - 1)) from (by first | exact am_oi_0.symm | rfl))) ?_
  exact L8 (rf_M w) 0 (by omega) 

set_option maxHeartbeats 400000 in
set_option maxRecDepth 100000 in
theorem c_X6_pupilsFor {ad : Nat → Nat} {r : am_R} (hR : am_rs r) {h : am_H} (d : Int32) (m : Nat) (w : rf_W) (hV : rf_I w) (hLo : cl_Lo (h) 4 w) (hSc : cl_Sc (h) 25 w) (hm : m < rf_M w)  : am_CM mX6_pupilsFor 3 0 0 [.ref 314, .int d, .int (nI m)] (am_VV ad) r h (am_po (some (.int (nI (rf_able w d m)))) r h) := by
  refine am_CM.of (by decide +kernel) (Nat.le_of_ble_eq_true rfl) (fun X C T => ?_)
  show am_G X (am_VV ad) (0, 0) 0 [(0, .ref 314), (1, .int d), (2, .int (nI m))] [] r h
  have hM9 : rf_M w < 17 := hV.1.1.2
  have hS9 : rf_S w < 11 := hV.1.2.1.2
  have hO9 : rf_O w < 11 := hV.1.2.2.2
  refine am_iconstN (pc := 0) (k := 0) C dX6_pupilsFor_0 ?_
  refine am_istore_n (pc := 1) (ls' := [(0, .ref 314), (1, .int d), (2, .int (nI m)), (3, .int (nI 0))]) C dX6_pupilsFor_1 (by decide) rfl ?_
  refine am_iconstN (pc := 2) (k := 0) C dX6_pupilsFor_2 ?_
  refine am_istore (pc := 3) (ls' := [(0, .ref 314), (1, .int d), (2, .int (nI m)), (3, .int (nI 0)), (4, .int (nI 0))]) C dX6_pupilsFor_3 (by decide) rfl ?_
  have L5 : ∀ (j5 i5 : Nat), i5 + j5 = rf_S w → am_G X (am_VV ad) (0, 0) 5 [(0, .ref 314), (1, .int d), (2, .int (nI m)), (3, .int (nI (rf_cnt (fun s => decide (rf_of w s 0 = d) && rf_can w s m) i5))), (4, .int (nI i5))] [] r h := by
    intro j5
    induction j5 with
    | zero =>
      intro i5 hi5 
      obtain rfl : i5 = rf_S w := by omega
      refine am_iload (pc := 5) C dX6_pupilsFor_5 rfl ?_
      refine am_aload_n (pc := 7) C dX6_pupilsFor_7 rfl ?_
      refine am_getR (pc := 8) (j := 4) C dX6_pupilsFor_8 f6_21 bn_314 sh_314 (rf_314_1 hR) ?_
      refine am_getI (pc := 11) C dX6_pupilsFor_11 f6_56 bn_4 sh_4 ?_
      refine am_top (show ((h 4) 2) = (nI (rf_S w)) from (hLo.1.2.2.1.trans hV.1.2.1.1)) ?_
      refine am_icmp_geN (pc := 14) (tgt := 55) C dX6_pupilsFor_14 (by decide) (by omega) (by omega) (fun q14 => ?_) (fun q14 => ?_)
      · skip
        refine am_iload_n (pc := 55) C dX6_pupilsFor_55 rfl ?_
        exact am_ireti T dX6_pupilsFor_56 rfl (Nat.le_refl _) (Nat.le_refl _) rfl rfl rfl
      · skip
        exact absurd q14 (by omega)
    | succ j5 ih5 =>
      intro i5 hi5 
      have hl5 : i5 < rf_S w := by omega
      refine am_iload (pc := 5) C dX6_pupilsFor_5 rfl ?_
      refine am_aload_n (pc := 7) C dX6_pupilsFor_7 rfl ?_
      refine am_getR (pc := 8) (j := 4) C dX6_pupilsFor_8 f6_21 bn_314 sh_314 (rf_314_1 hR) ?_
      refine am_getI (pc := 11) C dX6_pupilsFor_11 f6_56 bn_4 sh_4 ?_
      refine am_top (show ((h 4) 2) = (nI (rf_S w)) from (hLo.1.2.2.1.trans hV.1.2.1.1)) ?_
      refine am_icmp_geN (pc := 14) (tgt := 55) C dX6_pupilsFor_14 (by decide) (by omega) (by omega) (fun q14 => ?_) (fun q14 => ?_)
      · skip
        exact absurd q14 (by omega)
      · skip
        refine am_aload_n (pc := 17) C dX6_pupilsFor_17 rfl ?_
        refine am_getR (pc := 18) (j := 4) C dX6_pupilsFor_18 f6_21 bn_314 sh_314 (rf_314_1 hR) ?_
        refine am_getR (pc := 21) (j := 10) C dX6_pupilsFor_21 f6_60 bn_4 sh_4 (rf_4_9 hR) ?_
        refine am_iload (pc := 24) C dX6_pupilsFor_24 rfl ?_
        refine am_callSNi (Y := mX11_pick) (pc := 26) (st := []) (As := [.ref 10, .int (nI i5)]) (x := ((h 10) i5)) (h2 := h) C dX6_pupilsFor_26 k6_40 v_X11_pick rfl rfl (by decide) (Nat.zero_le _) (Nat.zero_le _) (Nat.le_of_ble_eq_true rfl) (c_X11_pick 10 i5 10 bn_10 sh_10 (show i5 < 10 from by omega) (by decide)) ?_
        refine am_top (show ((h 10) i5) = (rf_of w i5 0) from (hLo.2.2.1 i5 (by omega)).1) ?_
        refine am_iload_n (pc := 29) C dX6_pupilsFor_29 rfl ?_
        refine am_icmp_ne (pc := 30) (tgt := 49) C dX6_pupilsFor_30 (by decide) (fun q30 => ?_) (fun q30 => ?_)
        · skip
          refine am_iincN (pc := 49) (ls' := [(0, .ref 314), (1, .int d), (2, .int (nI m)), (3, .int (nI (rf_cnt (fun s => decide (rf_of w s 0 = d) && rf_can w s m) i5))), (4, .int (nI (i5 + 1)))]) C dX6_pupilsFor_49 rfl (am_up1 _) (by decide) rfl ?_
          refine am_goto (pc := 52) (tgt := 5) C dX6_pupilsFor_52 (by decide) ?_
          refine am_lsv (ls' := [(0, .ref 314), (1, .int d), (2, .int (nI m)), (3, .int (nI (rf_cnt (fun s => decide (rf_of w s 0 = d) && rf_can w s m) (i5 + 1)))), (4, .int (nI (i5 + 1)))]) (by rw [show (nI (rf_cnt (fun s => decide (rf_of w s 0 = d) && rf_can w s m) i5)) = (nI (rf_cnt (fun s => decide (rf_of w s 0 = d) && rf_can w s m) (i5 + 1))) from rf_cnt_f (by show (_ && _) = false; rw [decide_eq_false q30]; rfl)]) ?_
          exact ih5 (i5 + 1) (by omega) 
        · skip
          refine am_aload_n (pc := 33) C dX6_pupilsFor_33 rfl ?_
          refine am_getR (pc := 34) (j := 3) C dX6_pupilsFor_34 f6_9 bn_314 sh_314 (rf_314_0 hR) ?_
          refine am_iload (pc := 37) C dX6_pupilsFor_37 rfl ?_
          refine am_iload_n (pc := 39) C dX6_pupilsFor_39 rfl ?_
          refine am_callVi (Y := mX10_canLearn) (pc := 40) (st := []) (As := [.int (nI i5), .int (nI m)]) (x := (am_b (rf_can w i5 m))) (h2 := h) C dX6_pupilsFor_40 k6_96 v_X10_canLearn rfl rfl bn_3 sh_3 ⟨by decide, rfl⟩ (by decide) (Nat.zero_le _) (Nat.zero_le _) (Nat.le_of_ble_eq_true rfl) (c_X10_canLearn hR i5 m w hV hLo hSc (show i5 < rf_S w from by omega) hm) ?_
          refine am_if_eqB (pc := 43) (tgt := 49) C dX6_pupilsFor_43 (by decide) (fun q43 => ?_) (fun q43 => ?_)
          · skip
            refine am_iincN (pc := 49) (ls' := [(0, .ref 314), (1, .int d), (2, .int (nI m)), (3, .int (nI (rf_cnt (fun s => decide (rf_of w s 0 = d) && rf_can w s m) i5))), (4, .int (nI (i5 + 1)))]) C dX6_pupilsFor_49 rfl (am_up1 _) (by decide) rfl ?_
            refine am_goto (pc := 52) (tgt := 5) C dX6_pupilsFor_52 (by decide) ?_
            refine am_lsv (ls' := [(0, .ref 314), (1, .int d), (2, .int (nI m)), (3, .int (nI (rf_cnt (fun s => decide (rf_of w s 0 = d) && rf_can w s m) (i5 + 1)))), (4, .int (nI (i5 + 1)))]) (by rw [show (nI (rf_cnt (fun s => decide (rf_of w s 0 = d) && rf_can w s m) i5)) = (nI (rf_cnt (fun s => decide (rf_of w s 0 = d) && rf_can w s m) (i5 + 1))) from rf_cnt_f (by show (_ && _) = false; rw [q43, Bool.and_false])]) ?_
            exact ih5 (i5 + 1) (by omega) 
          · skip
            refine am_iincN (pc := 46) (ls' := [(0, .ref 314), (1, .int d), (2, .int (nI m)), (3, .int (nI (rf_cnt (fun s => decide (rf_of w s 0 = d) && rf_can w s m) i5 + 1))), (4, .int (nI i5))]) C dX6_pupilsFor_46 rfl (am_up1 _) (by decide) rfl ?_
            refine am_iincN (pc := 49) (ls' := [(0, .ref 314), (1, .int d), (2, .int (nI m)), (3, .int (nI (rf_cnt (fun s => decide (rf_of w s 0 = d) && rf_can w s m) i5 + 1))), (4, .int (nI (i5 + 1)))]) C dX6_pupilsFor_49 rfl (am_up1 _) (by decide) rfl ?_
            refine am_goto (pc := 52) (tgt := 5) C dX6_pupilsFor_52 (by decide) ?_
            refine am_lsv (ls' := [(0, .ref 314), (1, .int d), (2, .int (nI m)), (3, .int (nI (rf_cnt (fun s => decide (rf_of w s 0 = d) && rf_can w s m) (i5 + 1)))), (4, .int (nI (i5 + 1)))]) (by rw [show (nI (rf_cnt (fun s => decide (rf_of w s 0 = d) && rf_can w s m) i5 + 1)) = (nI (rf_cnt (fun s => decide (rf_of w s 0 = d) && rf_can w s m) (i5 + 1))) from rf_cnt_t (by show (_ && _) = true; rw [decide_eq_true q30, q43]; rfl)]) ?_
            exact ih5 (i5 + 1) (by omega) 
  exact L5 (rf_S w) 0 (by omega) 

set_option maxHeartbeats 400000 in
set_option maxRecDepth 100000 in
theorem c_X6_lackingTo {ad : Nat → Nat} {r : am_R} (hR : am_rs r) {h : am_H} (d : Nat) (k : Nat) (w : rf_W) (hV : rf_I w) (hLo : cl_Lo (h) 4 w) (hSc : cl_Sc (h) 25 w) (hd : d < 2) (hk : k < 11)  : am_CM mX6_lackingTo 4 0 0 [.ref 314, .int (nI d), .int (nI k)] (am_VV ad) r h (am_po (some (.int (rf_rv w d k (rf_M w) 0 (nI 0)))) r h) := by
  refine am_CM.of (by decide +kernel) (Nat.le_of_ble_eq_true rfl) (fun X C T => ?_)
  show am_G X (am_VV ad) (0, 0) 0 [(0, .ref 314), (1, .int (nI d)), (2, .int (nI k))] [] r h
  have hM9 : rf_M w < 17 := hV.1.1.2
  have hS9 : rf_S w < 11 := hV.1.2.1.2
  have hO9 : rf_O w < 11 := hV.1.2.2.2
  refine am_iconstN (pc := 0) (k := 0) C dX6_lackingTo_0 ?_
  refine am_istore_n (pc := 1) (ls' := [(0, .ref 314), (1, .int (nI d)), (2, .int (nI k)), (3, .int (nI 0))]) C dX6_lackingTo_1 (by decide) rfl ?_
  refine am_iconstN (pc := 2) (k := 0) C dX6_lackingTo_2 ?_
  refine am_istore (pc := 3) (ls' := [(0, .ref 314), (1, .int (nI d)), (2, .int (nI k)), (3, .int (nI 0)), (4, .int (nI 0))]) C dX6_lackingTo_3 (by decide) rfl ?_
  have L5 : ∀ (j5 : Nat) (m : Nat) (x : Int32), (hmj : m + j5 = rf_M w) → (hms : rf_rv w d k j5 m x = rf_rv w d k (rf_M w) 0 (nI 0)) → am_G X (am_VV ad) (0, 0) 5 [(0, .ref 314), (1, .int (nI d)), (2, .int (nI k)), (3, .int x), (4, .int (nI m))] [] r h := by
    intro j5
    induction j5 with
    | zero =>
      intro m x hmj hms
      refine am_iload (pc := 5) C dX6_lackingTo_5 rfl ?_
      refine am_aload_n (pc := 7) C dX6_lackingTo_7 rfl ?_
      refine am_getR (pc := 8) (j := 4) C dX6_lackingTo_8 f6_21 bn_314 sh_314 (rf_314_1 hR) ?_
      refine am_getI (pc := 11) C dX6_lackingTo_11 f6_67 bn_4 sh_4 ?_
      refine am_top (show ((h 4) 1) = (nI (rf_M w)) from (hLo.1.2.1.trans hV.1.1.1)) ?_
      refine am_icmp_geN (pc := 14) (tgt := 90) C dX6_lackingTo_14 (by decide) (by omega) (by omega) (fun q14 => ?_) (fun q14 => ?_)
      · skip
        refine am_iload_n (pc := 90) C dX6_lackingTo_90 rfl ?_
        exact am_ireti T dX6_lackingTo_91 rfl (Nat.le_refl _) (Nat.le_refl _) hms rfl rfl
      · skip
        exact absurd hmj (by omega)
    | succ j5 ih5 =>
      intro m x hmj hms
      refine am_iload (pc := 5) C dX6_lackingTo_5 rfl ?_
      refine am_aload_n (pc := 7) C dX6_lackingTo_7 rfl ?_
      refine am_getR (pc := 8) (j := 4) C dX6_lackingTo_8 f6_21 bn_314 sh_314 (rf_314_1 hR) ?_
      refine am_getI (pc := 11) C dX6_lackingTo_11 f6_67 bn_4 sh_4 ?_
      refine am_top (show ((h 4) 1) = (nI (rf_M w)) from (hLo.1.2.1.trans hV.1.1.1)) ?_
      refine am_icmp_geN (pc := 14) (tgt := 90) C dX6_lackingTo_14 (by decide) (by omega) (by omega) (fun q14 => ?_) (fun q14 => ?_)
      · skip
        exact absurd q14 (by omega)
      · skip
        refine am_aload_n (pc := 17) C dX6_lackingTo_17 rfl ?_
        refine am_getR (pc := 18) (j := 4) C dX6_lackingTo_18 f6_21 bn_314 sh_314 (rf_314_1 hR) ?_
        refine am_getR (pc := 21) (j := 16) C dX6_lackingTo_21 f6_70 bn_4 sh_4 (rf_4_15 hR) ?_
        refine am_iload_n (pc := 24) C dX6_lackingTo_24 rfl ?_
        refine am_callSNi (Y := mX11_pick) (pc := 25) (st := []) (As := [.ref 16, .int (nI d)]) (x := ((h 16) d)) (h2 := h) C dX6_lackingTo_25 k6_40 v_X11_pick rfl rfl (by decide) (Nat.zero_le _) (Nat.zero_le _) (Nat.le_of_ble_eq_true rfl) (c_X11_pick 16 d 2 bn_16 sh_16 (show d < 2 from by omega) (by decide)) ?_
        refine am_top (show ((h 16) d) = (w (11 + d)) from (cl_plan hLo (by omega))) ?_
        refine am_iload (pc := 28) C dX6_lackingTo_28 rfl ?_
        refine am_callSNi (Y := mX11_has) (pc := 30) (st := []) (As := [.int (w (11 + d)), .int (nI m)]) (x := (am_b (am_bt (w (11 + d)) m))) (h2 := h) C dX6_lackingTo_30 k6_53 v_X11_has rfl rfl (by decide) (Nat.zero_le _) (Nat.zero_le _) (Nat.le_of_ble_eq_true rfl) (c_X11_has (w (11 + d)) m (show m < 32 from by omega)) ?_
        refine am_if_eqB (pc := 33) (tgt := 84) C dX6_lackingTo_33 (by decide) (fun q33 => ?_) (fun q33 => ?_)
        · skip
          refine am_iincN (pc := 84) (ls' := [(0, .ref 314), (1, .int (nI d)), (2, .int (nI k)), (3, .int x), (4, .int (nI (m + 1)))]) C dX6_lackingTo_84 rfl (am_up1 _) (by decide) rfl ?_
          refine am_goto (pc := 87) (tgt := 5) C dX6_lackingTo_87 (by decide) ?_
          exact ih5 (m + 1) x (by omega) (by rw [← hms, rf_rv, if_pos q33])
        · skip
          refine am_iload_n (pc := 36) C dX6_lackingTo_36 rfl ?_
          refine am_aload_n (pc := 37) C dX6_lackingTo_37 rfl ?_
          refine am_getR (pc := 38) (j := 3) C dX6_lackingTo_38 f6_9 bn_314 sh_314 (rf_314_0 hR) ?_
          refine am_iload (pc := 41) C dX6_lackingTo_41 rfl ?_
          refine am_callVi (Y := mX10_whoUse) (pc := 43) (st := [.int (nI k)]) (As := [.int (nI m)]) (x := (rf_users w m)) (h2 := h) C dX6_lackingTo_43 k6_76 v_X10_whoUse rfl rfl bn_3 sh_3 ⟨by decide, rfl⟩ (by decide) (Nat.zero_le _) (Nat.zero_le _) (Nat.le_of_ble_eq_true rfl) (c_X10_whoUse hR m w hV hLo hSc (show m < 32 from by omega)) ?_
          refine am_aload_n (pc := 46) C dX6_lackingTo_46 rfl ?_
          refine am_getR (pc := 47) (j := 3) C dX6_lackingTo_47 f6_9 bn_314 sh_314 (rf_314_0 hR) ?_
          refine am_iload_n (pc := 50) C dX6_lackingTo_50 rfl ?_
          refine am_callVi (Y := mX10_sideBits) (pc := 51) (st := [.int (rf_users w m), .int (nI k)]) (As := [.int (nI d)]) (x := (rf_sideOf w (nI d))) (h2 := h) C dX6_lackingTo_51 k6_80 v_X10_sideBits rfl rfl bn_3 sh_3 ⟨by decide, rfl⟩ (by decide) (Nat.zero_le _) (Nat.zero_le _) (Nat.le_of_ble_eq_true rfl) (c_X10_sideBits hR (nI d) w hV hLo hSc) ?_
          refine am_iand (pc := 54) C dX6_lackingTo_54 ?_
          refine am_callSi (Y := mJ6_bitCount_0f7a4) (pc := 55) (st := [.int (nI k)]) (As := [.int ((rf_users w m) &&& (rf_sideOf w (nI d)))]) (x := (rf_pc ((rf_users w m) &&& (rf_sideOf w (nI d))))) (h2 := h) C dX6_lackingTo_55 k6_83 v_J6_bitCount_0f7a4 rfl rfl (by decide) (Nat.zero_le _) (Nat.zero_le _) (Nat.le_of_ble_eq_true rfl) (c_J6_bitCount_0f7a4 hR ((rf_users w m) &&& (rf_sideOf w (nI d)))) ?_
          refine am_isub (pc := 58) C dX6_lackingTo_58 ?_
          refine am_istore (pc := 59) (ls' := [(0, .ref 314), (1, .int (nI d)), (2, .int (nI k)), (3, .int x), (4, .int (nI m)), (5, .int ((nI k) - (rf_pc ((rf_users w m) &&& (rf_sideOf w (nI d))))))]) C dX6_lackingTo_59 (by decide) rfl ?_
          refine am_iload (pc := 61) C dX6_lackingTo_61 rfl ?_
          refine am_aload_n (pc := 63) C dX6_lackingTo_63 rfl ?_
          refine am_iload_n (pc := 64) C dX6_lackingTo_64 rfl ?_
          refine am_iload (pc := 65) C dX6_lackingTo_65 rfl ?_
          refine am_callVi (Y := mX6_pupilsFor) (pc := 67) (st := [.int ((nI k) - (rf_pc ((rf_users w m) &&& (rf_sideOf w (nI d)))))]) (As := [.int (nI d), .int (nI m)]) (x := (nI (rf_able w (nI d) m))) (h2 := h) C dX6_lackingTo_67 k6_88 v_X6_pupilsFor rfl rfl bn_314 sh_314 ⟨by decide, rfl⟩ (by decide) (Nat.zero_le _) (Nat.zero_le _) (Nat.le_of_ble_eq_true rfl) (c_X6_pupilsFor hR (nI d) m w hV hLo hSc (show m < rf_M w from by omega)) ?_
          have hab : rf_able w (nI d) m ≤ rf_S w := rf_cnt_le _ _
          refine am_icmp_le (pc := 70) (tgt := 75) C dX6_lackingTo_70 (by decide) (fun q70 => ?_) (fun q70 => ?_)
          · skip
            refine am_iload_n (pc := 75) C dX6_lackingTo_75 rfl ?_
            refine am_iload (pc := 76) C dX6_lackingTo_76 rfl ?_
            refine am_iconstN (pc := 78) (k := 0) C dX6_lackingTo_78 ?_
            refine am_callSi (Y := mJ9_max_7cf53) (pc := 79) (st := [.int x]) (As := [.int ((nI k) - (rf_pc ((rf_users w m) &&& (rf_sideOf w (nI d))))), .int (nI 0)]) (x := (rf_max ((nI k) - (rf_pc ((rf_users w m) &&& (rf_sideOf w (nI d))))) (nI 0))) (h2 := h) C dX6_lackingTo_79 k6_91 v_J9_max_7cf53 rfl rfl (by decide) (Nat.zero_le _) (Nat.zero_le _) (Nat.le_of_ble_eq_true rfl) (c_J9_max_7cf53 hR ((nI k) - (rf_pc ((rf_users w m) &&& (rf_sideOf w (nI d))))) (nI 0)) ?_
            refine am_iadd (pc := 82) C dX6_lackingTo_82 ?_
            refine am_istore_n (pc := 83) (ls' := [(0, .ref 314), (1, .int (nI d)), (2, .int (nI k)), (3, .int (x + (rf_max ((nI k) - (rf_pc ((rf_users w m) &&& (rf_sideOf w (nI d))))) (nI 0)))), (4, .int (nI m)), (5, .int ((nI k) - (rf_pc ((rf_users w m) &&& (rf_sideOf w (nI d))))))]) C dX6_lackingTo_83 (by decide) rfl ?_
            refine am_iincN (pc := 84) (ls' := [(0, .ref 314), (1, .int (nI d)), (2, .int (nI k)), (3, .int (x + (rf_max ((nI k) - (rf_pc ((rf_users w m) &&& (rf_sideOf w (nI d))))) (nI 0)))), (4, .int (nI (m + 1))), (5, .int ((nI k) - (rf_pc ((rf_users w m) &&& (rf_sideOf w (nI d))))))]) C dX6_lackingTo_84 rfl (am_up1 _) (by decide) rfl ?_
            refine am_goto (pc := 87) (tgt := 5) C dX6_lackingTo_87 (by decide) ?_
            refine am_sub (ls' := [(0, .ref 314), (1, .int (nI d)), (2, .int (nI k)), (3, .int (x + (rf_max ((nI k) - (rf_pc ((rf_users w m) &&& (rf_sideOf w (nI d))))) (nI 0)))), (4, .int (nI (m + 1)))]) (by intro q hq; simp only [List.mem_cons, List.not_mem_nil, or_false] at hq ⊢; rcases hq with rfl | rfl | rfl | rfl | rfl <;> simp) ?_
            exact ih5 (m + 1) (x + (rf_max ((nI k) - (rf_pc ((rf_users w m) &&& (rf_sideOf w (nI d))))) (nI 0))) (by omega) (by rw [← hms, rf_rv, if_neg (by rw [q33]; decide), if_pos ((rf_lack_le (by omega)).mpr q70), rf_lack, rf_max_c]; rfl)
          · skip
            refine am_iconst (pc := 73) (v := -1) C dX6_lackingTo_73 rfl ?_
            exact am_ireti T dX6_lackingTo_74 rfl (Nat.le_refl _) (Nat.le_refl _) (by rw [← hms, rf_rv, if_neg (by rw [q33]; decide), if_neg (fun z => q70 ((rf_lack_le (by omega)).mp z))]) rfl rfl
  exact L5 (rf_M w) 0 (nI 0) (by omega) rfl

set_option maxHeartbeats 400000 in
set_option maxRecDepth 100000 in
theorem c_X6_easiestOrder {ad : Nat → Nat} {r : am_R} (hR : am_rs r) {h : am_H}  (w : rf_W) (hV : rf_I w) (hLo : cl_Lo (h) 4 w) (hSc : cl_Sc (h) 25 w)  : am_CM mX6_easiestOrder 2 0 0 [.ref 314] (am_VV ad) r h (am_po (some (.int (am_oi ((rf_dl w (rf_O w)).1)))) r h) := by
  refine am_CM.of (by decide +kernel) (Nat.le_of_ble_eq_true rfl) (fun X C T => ?_)
  show am_G X (am_VV ad) (0, 0) 0 [(0, .ref 314)] [] r h
  have hM9 : rf_M w < 17 := hV.1.1.2
  have hS9 : rf_S w < 11 := hV.1.2.1.2
  have hO9 : rf_O w < 11 := hV.1.2.2.2
  refine am_iconst (pc := 0) (v := -1) C dX6_easiestOrder_0 rfl ?_
  refine am_istore_n (pc := 1) (ls' := [(0, .ref 314), (1, .int (-1))]) C dX6_easiestOrder_1 (by decide) rfl ?_
  refine am_iconstN (pc := 2) (k := 0) C dX6_easiestOrder_2 ?_
  refine am_istore_n (pc := 3) (ls' := [(0, .ref 314), (1, .int (-1)), (2, .int (nI 0))]) C dX6_easiestOrder_3 (by decide) rfl ?_
  refine am_iconstN (pc := 4) (k := 0) C dX6_easiestOrder_4 ?_
  refine am_istore_n (pc := 5) (ls' := [(0, .ref 314), (1, .int (-1)), (2, .int (nI 0)), (3, .int (nI 0))]) C dX6_easiestOrder_5 (by decide) rfl ?_
  have L6 : ∀ (j6 i6 : Nat), i6 + j6 = rf_O w → am_G X (am_VV ad) (0, 0) 6 [(0, .ref 314), (1, .int (am_oi ((rf_dl w i6).1))), (2, .int (rf_dm (rf_dl w i6))), (3, .int (nI i6))] [] r h := by
    intro j6
    induction j6 with
    | zero =>
      intro i6 hi6 
      obtain rfl : i6 = rf_O w := by omega
      refine am_iload_n (pc := 6) C dX6_easiestOrder_6 rfl ?_
      refine am_aload_n (pc := 7) C dX6_easiestOrder_7 rfl ?_
      refine am_getR (pc := 8) (j := 4) C dX6_easiestOrder_8 f6_21 bn_314 sh_314 (rf_314_1 hR) ?_
      refine am_getI (pc := 11) C dX6_easiestOrder_11 f6_99 bn_4 sh_4 ?_
      refine am_top (show ((h 4) 3) = (nI (rf_O w)) from (hLo.1.2.2.2.trans hV.1.2.2.1)) ?_
      refine am_icmp_geN (pc := 14) (tgt := 49) C dX6_easiestOrder_14 (by decide) (by omega) (by omega) (fun q14 => ?_) (fun q14 => ?_)
      · skip
        refine am_iload_n (pc := 49) C dX6_easiestOrder_49 rfl ?_
        exact am_ireti T dX6_easiestOrder_50 rfl (Nat.le_refl _) (Nat.le_refl _) rfl rfl rfl
      · skip
        exact absurd q14 (by omega)
    | succ j6 ih6 =>
      intro i6 hi6 
      have hl6 : i6 < rf_O w := by omega
      have hd9 := rf_dl_le (w := w) i6
      refine am_iload_n (pc := 6) C dX6_easiestOrder_6 rfl ?_
      refine am_aload_n (pc := 7) C dX6_easiestOrder_7 rfl ?_
      refine am_getR (pc := 8) (j := 4) C dX6_easiestOrder_8 f6_21 bn_314 sh_314 (rf_314_1 hR) ?_
      refine am_getI (pc := 11) C dX6_easiestOrder_11 f6_99 bn_4 sh_4 ?_
      refine am_top (show ((h 4) 3) = (nI (rf_O w)) from (hLo.1.2.2.2.trans hV.1.2.2.1)) ?_
      refine am_icmp_geN (pc := 14) (tgt := 49) C dX6_easiestOrder_14 (by decide) (by omega) (by omega) (fun q14 => ?_) (fun q14 => ?_)
      · skip
        exact absurd q14 (by omega)
      · skip
        refine am_aload_n (pc := 17) C dX6_easiestOrder_17 rfl ?_
        refine am_getR (pc := 18) (j := 4) C dX6_easiestOrder_18 f6_21 bn_314 sh_314 (rf_314_1 hR) ?_
        refine am_iload_n (pc := 21) C dX6_easiestOrder_21 rfl ?_
        refine am_callVi (Y := mX3_neededInAll) (pc := 22) (st := []) (As := [.int (nI i6)]) (x := (rf_pc (rf_bearsAll w (rf_ord w i6 1)))) (h2 := h) C dX6_easiestOrder_22 k6_117 v_X3_neededInAll rfl rfl bn_4 sh_4 ⟨by decide, rfl⟩ (by decide) (Nat.zero_le _) (Nat.zero_le _) (Nat.le_of_ble_eq_true rfl) (c_X3_neededInAll hR i6 w hV hLo (show i6 < rf_O w from by omega)) ?_
        refine am_istore (pc := 25) (ls' := [(0, .ref 314), (1, .int (am_oi ((rf_dl w i6).1))), (2, .int (rf_dm (rf_dl w i6))), (3, .int (nI i6)), (4, .int (rf_pc (rf_bearsAll w (rf_ord w i6 1))))]) C dX6_easiestOrder_25 (by decide) rfl ?_
        refine am_iload_n (pc := 27) C dX6_easiestOrder_27 rfl ?_
        refine am_iconst (pc := 28) (v := -1) C dX6_easiestOrder_28 rfl ?_
        refine am_icmp_eqO (pc := 29) (tgt := 38) C dX6_easiestOrder_29 (by decide) (by omega) (fun q29 => ?_) (fun q29 => ?_)
        · skip
          refine am_iload_n (pc := 38) C dX6_easiestOrder_38 rfl ?_
          refine am_istore_n (pc := 39) (ls' := [(0, .ref 314), (1, .int (nI i6)), (2, .int (rf_dm (rf_dl w i6))), (3, .int (nI i6)), (4, .int (rf_pc (rf_bearsAll w (rf_ord w i6 1))))]) C dX6_easiestOrder_39 (by decide) rfl ?_
          refine am_iload (pc := 40) C dX6_easiestOrder_40 rfl ?_
          refine am_istore_n (pc := 42) (ls' := [(0, .ref 314), (1, .int (nI i6)), (2, .int (rf_pc (rf_bearsAll w (rf_ord w i6 1)))), (3, .int (nI i6)), (4, .int (rf_pc (rf_bearsAll w (rf_ord w i6 1))))]) C dX6_easiestOrder_42 (by decide) rfl ?_
          refine am_iincN (pc := 43) (ls' := [(0, .ref 314), (1, .int (nI i6)), (2, .int (rf_pc (rf_bearsAll w (rf_ord w i6 1)))), (3, .int (nI (i6 + 1))), (4, .int (rf_pc (rf_bearsAll w (rf_ord w i6 1))))]) C dX6_easiestOrder_43 rfl (am_up1 _) (by decide) rfl ?_
          refine am_goto (pc := 46) (tgt := 6) C dX6_easiestOrder_46 (by decide) ?_
          refine am_sub (ls' := [(0, .ref 314), (1, .int (nI i6)), (2, .int (rf_pc (rf_bearsAll w (rf_ord w i6 1)))), (3, .int (nI (i6 + 1)))]) (by intro q hq; simp only [List.mem_cons, List.not_mem_nil, or_false] at hq ⊢; rcases hq with rfl | rfl | rfl | rfl <;> simp) ?_
          refine am_lsv (ls' := [(0, .ref 314), (1, .int (am_oi ((rf_dl w (i6 + 1)).1))), (2, .int (rf_pc (rf_bearsAll w (rf_ord w i6 1)))), (3, .int (nI (i6 + 1)))]) (congrArg (fun z9 : Int32 => ([(0, .ref 314), (1, Value.int z9), (2, .int (rf_pc (rf_bearsAll w (rf_ord w i6 1)))), (3, .int (nI (i6 + 1)))] : List (Nat × Value))) (show (nI i6) = (am_oi ((rf_dl w (i6 + 1)).1)) from rf_dl_y1 (Or.inl q29))) ?_
          refine am_lsv (ls' := [(0, .ref 314), (1, .int (am_oi ((rf_dl w (i6 + 1)).1))), (2, .int (rf_dm (rf_dl w (i6 + 1)))), (3, .int (nI (i6 + 1)))]) (congrArg (fun z9 : Int32 => ([(0, .ref 314), (1, .int (am_oi ((rf_dl w (i6 + 1)).1))), (2, Value.int z9), (3, .int (nI (i6 + 1)))] : List (Nat × Value))) (show (rf_pc (rf_bearsAll w (rf_ord w i6 1))) = (rf_dm (rf_dl w (i6 + 1))) from rf_dm_y (Or.inl q29))) ?_
          exact ih6 (i6 + 1) (by omega) 
        · skip
          refine am_iload (pc := 32) C dX6_easiestOrder_32 rfl ?_
          refine am_iload_n (pc := 34) C dX6_easiestOrder_34 rfl ?_
          refine am_icmp_ge (pc := 35) (tgt := 43) C dX6_easiestOrder_35 (by decide) (fun q35 => ?_) (fun q35 => ?_)
          · skip
            refine am_iincN (pc := 43) (ls' := [(0, .ref 314), (1, .int (am_oi ((rf_dl w i6).1))), (2, .int (rf_dm (rf_dl w i6))), (3, .int (nI (i6 + 1))), (4, .int (rf_pc (rf_bearsAll w (rf_ord w i6 1))))]) C dX6_easiestOrder_43 rfl (am_up1 _) (by decide) rfl ?_
            refine am_goto (pc := 46) (tgt := 6) C dX6_easiestOrder_46 (by decide) ?_
            refine am_sub (ls' := [(0, .ref 314), (1, .int (am_oi ((rf_dl w i6).1))), (2, .int (rf_dm (rf_dl w i6))), (3, .int (nI (i6 + 1)))]) (by intro q hq; simp only [List.mem_cons, List.not_mem_nil, or_false] at hq ⊢; rcases hq with rfl | rfl | rfl | rfl <;> simp) ?_
            refine am_lsv (ls' := [(0, .ref 314), (1, .int (am_oi ((rf_dl w (i6 + 1)).1))), (2, .int (rf_dm (rf_dl w i6))), (3, .int (nI (i6 + 1)))]) (congrArg (fun z9 : Int32 => ([(0, .ref 314), (1, Value.int z9), (2, .int (rf_dm (rf_dl w i6))), (3, .int (nI (i6 + 1)))] : List (Nat × Value))) (show (am_oi ((rf_dl w i6).1)) = (am_oi ((rf_dl w (i6 + 1)).1)) from rf_dl_n1 (fun z => z.elim (by omega) (rf_dm_ge q29 q35)))) ?_
            refine am_lsv (ls' := [(0, .ref 314), (1, .int (am_oi ((rf_dl w (i6 + 1)).1))), (2, .int (rf_dm (rf_dl w (i6 + 1)))), (3, .int (nI (i6 + 1)))]) (congrArg (fun z9 : Int32 => ([(0, .ref 314), (1, .int (am_oi ((rf_dl w (i6 + 1)).1))), (2, Value.int z9), (3, .int (nI (i6 + 1)))] : List (Nat × Value))) (show (rf_dm (rf_dl w i6)) = (rf_dm (rf_dl w (i6 + 1))) from rf_dm_n (fun z => z.elim (by omega) (rf_dm_ge q29 q35)))) ?_
            exact ih6 (i6 + 1) (by omega) 
          · skip
            refine am_iload_n (pc := 38) C dX6_easiestOrder_38 rfl ?_
            refine am_istore_n (pc := 39) (ls' := [(0, .ref 314), (1, .int (nI i6)), (2, .int (rf_dm (rf_dl w i6))), (3, .int (nI i6)), (4, .int (rf_pc (rf_bearsAll w (rf_ord w i6 1))))]) C dX6_easiestOrder_39 (by decide) rfl ?_
            refine am_iload (pc := 40) C dX6_easiestOrder_40 rfl ?_
            refine am_istore_n (pc := 42) (ls' := [(0, .ref 314), (1, .int (nI i6)), (2, .int (rf_pc (rf_bearsAll w (rf_ord w i6 1)))), (3, .int (nI i6)), (4, .int (rf_pc (rf_bearsAll w (rf_ord w i6 1))))]) C dX6_easiestOrder_42 (by decide) rfl ?_
            refine am_iincN (pc := 43) (ls' := [(0, .ref 314), (1, .int (nI i6)), (2, .int (rf_pc (rf_bearsAll w (rf_ord w i6 1)))), (3, .int (nI (i6 + 1))), (4, .int (rf_pc (rf_bearsAll w (rf_ord w i6 1))))]) C dX6_easiestOrder_43 rfl (am_up1 _) (by decide) rfl ?_
            refine am_goto (pc := 46) (tgt := 6) C dX6_easiestOrder_46 (by decide) ?_
            refine am_sub (ls' := [(0, .ref 314), (1, .int (nI i6)), (2, .int (rf_pc (rf_bearsAll w (rf_ord w i6 1)))), (3, .int (nI (i6 + 1)))]) (by intro q hq; simp only [List.mem_cons, List.not_mem_nil, or_false] at hq ⊢; rcases hq with rfl | rfl | rfl | rfl <;> simp) ?_
            refine am_lsv (ls' := [(0, .ref 314), (1, .int (am_oi ((rf_dl w (i6 + 1)).1))), (2, .int (rf_pc (rf_bearsAll w (rf_ord w i6 1)))), (3, .int (nI (i6 + 1)))]) (congrArg (fun z9 : Int32 => ([(0, .ref 314), (1, Value.int z9), (2, .int (rf_pc (rf_bearsAll w (rf_ord w i6 1)))), (3, .int (nI (i6 + 1)))] : List (Nat × Value))) (show (nI i6) = (am_oi ((rf_dl w (i6 + 1)).1)) from rf_dl_y1 (Or.inr (rf_dm_lt q29 q35)))) ?_
            refine am_lsv (ls' := [(0, .ref 314), (1, .int (am_oi ((rf_dl w (i6 + 1)).1))), (2, .int (rf_dm (rf_dl w (i6 + 1)))), (3, .int (nI (i6 + 1)))]) (congrArg (fun z9 : Int32 => ([(0, .ref 314), (1, .int (am_oi ((rf_dl w (i6 + 1)).1))), (2, Value.int z9), (3, .int (nI (i6 + 1)))] : List (Nat × Value))) (show (rf_pc (rf_bearsAll w (rf_ord w i6 1))) = (rf_dm (rf_dl w (i6 + 1))) from rf_dm_y (Or.inr (rf_dm_lt q29 q35)))) ?_
            exact ih6 (i6 + 1) (by omega) 
  refine am_sub (ls' := [(0, .ref 314), (1, .int (-1)), (2, .int (nI 0)), (3, .int (nI 0))]) (by intro q hq; simp only [List.mem_cons, List.not_mem_nil, or_false] at hq ⊢; rcases hq with rfl | rfl | rfl | rfl <;> simp) ?_
  refine am_lsv (ls' := [(0, .ref 314), (1, .int (am_oi ((rf_dl w 0).1))), (2, .int (nI 0)), (3, .int (nI 0))]) (congrArg (fun z9 : Int32 => ([(0, .ref 314), (1, Value.int z9), (2, .int (nI 0)), (3, .int (nI 0))] : List (Nat × Value))) (show (-1) = (am_oi ((rf_dl w 0).1)) from (by first | exact am_oi_0.symm | rfl))) ?_
  refine am_lsv (ls' := [(0, .ref 314), (1, .int (am_oi ((rf_dl w 0).1))), (2, .int (rf_dm (rf_dl w 0))), (3, .int (nI 0))]) (congrArg (fun z9 : Int32 => ([(0, .ref 314), (1, .int (am_oi ((rf_dl w 0).1))), (2, Value.int z9), (3, .int (nI 0))] : List (Nat × Value))) (show (nI 0) = (rf_dm (rf_dl w 0)) from (by first | exact am_oi_0.symm | rfl))) ?_
  exact L6 (rf_O w) 0 (by omega) 

set_option maxHeartbeats 400000 in
set_option maxRecDepth 100000 in
theorem c_X6_beginnerWins {ad : Nat → Nat} {r : am_R} (hR : am_rs r) {h : am_H} (a : Nat) (b : Nat) (w : rf_W) (hV : rf_I w) (hLo : cl_Lo (h) 4 w) (hSc : cl_Sc (h) 25 w) (ha : a < rf_S w) (hb : b < rf_S w)  : am_CM mX6_beginnerWins 3 0 0 [.ref 314, .int (nI a), .int (nI b)] (am_VV ad) r h (am_po (some (.int (am_b (rf_race (rf_bc (rf_roots w (rf_known w a))) (rf_bc (rf_roots w (rf_known w b))))))) r h) := by
  refine am_CM.of (by decide +kernel) (Nat.le_of_ble_eq_true rfl) (fun X C T => ?_)
  show am_G X (am_VV ad) (0, 0) 0 [(0, .ref 314), (1, .int (nI a)), (2, .int (nI b))] [] r h
  have hM9 : rf_M w < 17 := hV.1.1.2
  have hS9 : rf_S w < 11 := hV.1.2.1.2
  have hO9 : rf_O w < 11 := hV.1.2.2.2
  have hb1 := rf_bc_le (rf_roots w (rf_known w a))
  have hb2 := rf_bc_le (rf_roots w (rf_known w b))
  refine am_aload_n (pc := 0) C dX6_beginnerWins_0 rfl ?_
  refine am_iload_n (pc := 1) C dX6_beginnerWins_1 rfl ?_
  refine am_callVi (Y := mX6_rootsOf) (pc := 2) (st := []) (As := [.int (nI a)]) (x := (rf_roots w (rf_known w a))) (h2 := h) C dX6_beginnerWins_2 k6_126 v_X6_rootsOf rfl rfl bn_314 sh_314 ⟨by decide, rfl⟩ (by decide) (Nat.zero_le _) (Nat.zero_le _) (Nat.le_of_ble_eq_true rfl) (c_X6_rootsOf hR a w hV hLo hSc ha) ?_
  refine am_callSi (Y := mJ6_bitCount_0f7a4) (pc := 5) (st := []) (As := [.int (rf_roots w (rf_known w a))]) (x := (rf_pc (rf_roots w (rf_known w a)))) (h2 := h) C dX6_beginnerWins_5 k6_83 v_J6_bitCount_0f7a4 rfl rfl (by decide) (Nat.zero_le _) (Nat.zero_le _) (Nat.le_of_ble_eq_true rfl) (c_J6_bitCount_0f7a4 hR (rf_roots w (rf_known w a))) ?_
  refine am_top (show (rf_pc (rf_roots w (rf_known w a))) = (nI (rf_bc (rf_roots w (rf_known w a)))) from (rf_pc_bc (rf_roots_lo (by omega)))) ?_
  refine am_aload_n (pc := 8) C dX6_beginnerWins_8 rfl ?_
  refine am_iload_n (pc := 9) C dX6_beginnerWins_9 rfl ?_
  refine am_callVi (Y := mX6_rootsOf) (pc := 10) (st := [.int (nI (rf_bc (rf_roots w (rf_known w a))))]) (As := [.int (nI b)]) (x := (rf_roots w (rf_known w b))) (h2 := h) C dX6_beginnerWins_10 k6_126 v_X6_rootsOf rfl rfl bn_314 sh_314 ⟨by decide, rfl⟩ (by decide) (Nat.zero_le _) (Nat.zero_le _) (Nat.le_of_ble_eq_true rfl) (c_X6_rootsOf hR b w hV hLo hSc hb) ?_
  refine am_callSi (Y := mJ6_bitCount_0f7a4) (pc := 13) (st := [.int (nI (rf_bc (rf_roots w (rf_known w a))))]) (As := [.int (rf_roots w (rf_known w b))]) (x := (rf_pc (rf_roots w (rf_known w b)))) (h2 := h) C dX6_beginnerWins_13 k6_83 v_J6_bitCount_0f7a4 rfl rfl (by decide) (Nat.zero_le _) (Nat.zero_le _) (Nat.le_of_ble_eq_true rfl) (c_J6_bitCount_0f7a4 hR (rf_roots w (rf_known w b))) ?_
  refine am_top (show (rf_pc (rf_roots w (rf_known w b))) = (nI (rf_bc (rf_roots w (rf_known w b)))) from (rf_pc_bc (rf_roots_lo (by omega)))) ?_
  refine am_callSi (Y := mX6_winsRace) (pc := 16) (st := []) (As := [.int (nI (rf_bc (rf_roots w (rf_known w a)))), .int (nI (rf_bc (rf_roots w (rf_known w b))))]) (x := (am_b (rf_race (rf_bc (rf_roots w (rf_known w a))) (rf_bc (rf_roots w (rf_known w b)))))) (h2 := h) C dX6_beginnerWins_16 k6_129 v_X6_winsRace rfl rfl (by decide) (Nat.zero_le _) (Nat.zero_le _) (Nat.le_of_ble_eq_true rfl) (c_X6_winsRace hR (rf_bc (rf_roots w (rf_known w a))) (rf_bc (rf_roots w (rf_known w b))) (show (rf_bc (rf_roots w (rf_known w a))) < 100 from by omega) (show (rf_bc (rf_roots w (rf_known w b))) < 100 from by omega)) ?_
  exact am_iretb T dX6_beginnerWins_19 rfl (Nat.le_refl _) (Nat.le_refl _) rfl rfl rfl

set_option maxHeartbeats 400000 in
set_option maxRecDepth 100000 in
theorem c_X6_winningHit {ad : Nat → Nat} {r : am_R} (hR : am_rs r) {h : am_H} (a : Nat) (b : Nat) (w : rf_W) (hV : rf_I w) (hLo : cl_Lo (h) 4 w) (hSc : cl_Sc (h) 25 w) (ha : a < rf_S w) (hb : b < rf_S w)  : am_CM mX6_winningHit 3 0 0 [.ref 314, .int (nI a), .int (nI b)] (am_VV ad) r h (am_po (some (.int (if rf_bc (rf_roots w (rf_known w a)) < 1 then -1 else rf_sea (fun m => am_bt (rf_known w b) m && !rf_race (rf_bc (rf_roots w (rf_known w b) &&& ((nI 1 <<< (nI m &&& 31)) ^^^ (-1)))) (rf_bc (rf_roots w (rf_known w a)))) (fun m => nI m) (rf_M w) 0))) r h) := by
  refine am_CM.of (by decide +kernel) (Nat.le_of_ble_eq_true rfl) (fun X C T => ?_)
  show am_G X (am_VV ad) (0, 0) 0 [(0, .ref 314), (1, .int (nI a)), (2, .int (nI b))] [] r h
  have hM9 : rf_M w < 17 := hV.1.1.2
  have hS9 : rf_S w < 11 := hV.1.2.1.2
  have hO9 : rf_O w < 11 := hV.1.2.2.2
  have hb1 := rf_bc_le (rf_roots w (rf_known w a))
  refine am_aload_n (pc := 0) C dX6_winningHit_0 rfl ?_
  refine am_iload_n (pc := 1) C dX6_winningHit_1 rfl ?_
  refine am_callVi (Y := mX6_rootsOf) (pc := 2) (st := []) (As := [.int (nI a)]) (x := (rf_roots w (rf_known w a))) (h2 := h) C dX6_winningHit_2 k6_126 v_X6_rootsOf rfl rfl bn_314 sh_314 ⟨by decide, rfl⟩ (by decide) (Nat.zero_le _) (Nat.zero_le _) (Nat.le_of_ble_eq_true rfl) (c_X6_rootsOf hR a w hV hLo hSc ha) ?_
  refine am_callSi (Y := mJ6_bitCount_0f7a4) (pc := 5) (st := []) (As := [.int (rf_roots w (rf_known w a))]) (x := (rf_pc (rf_roots w (rf_known w a)))) (h2 := h) C dX6_winningHit_5 k6_83 v_J6_bitCount_0f7a4 rfl rfl (by decide) (Nat.zero_le _) (Nat.zero_le _) (Nat.le_of_ble_eq_true rfl) (c_J6_bitCount_0f7a4 hR (rf_roots w (rf_known w a))) ?_
  refine am_top (show (rf_pc (rf_roots w (rf_known w a))) = (nI (rf_bc (rf_roots w (rf_known w a)))) from (rf_pc_bc (rf_roots_lo (by omega)))) ?_
  refine am_istore_n (pc := 8) (ls' := [(0, .ref 314), (1, .int (nI a)), (2, .int (nI b)), (3, .int (nI (rf_bc (rf_roots w (rf_known w a)))))]) C dX6_winningHit_8 (by decide) rfl ?_
  refine am_aload_n (pc := 9) C dX6_winningHit_9 rfl ?_
  refine am_iload_n (pc := 10) C dX6_winningHit_10 rfl ?_
  refine am_callVi (Y := mX6_rootsOf) (pc := 11) (st := []) (As := [.int (nI b)]) (x := (rf_roots w (rf_known w b))) (h2 := h) C dX6_winningHit_11 k6_126 v_X6_rootsOf rfl rfl bn_314 sh_314 ⟨by decide, rfl⟩ (by decide) (Nat.zero_le _) (Nat.zero_le _) (Nat.le_of_ble_eq_true rfl) (c_X6_rootsOf hR b w hV hLo hSc hb) ?_
  refine am_istore (pc := 14) (ls' := [(0, .ref 314), (1, .int (nI a)), (2, .int (nI b)), (3, .int (nI (rf_bc (rf_roots w (rf_known w a))))), (4, .int (rf_roots w (rf_known w b)))]) C dX6_winningHit_14 (by decide) rfl ?_
  refine am_iload_n (pc := 16) C dX6_winningHit_16 rfl ?_
  refine am_iconstN (pc := 17) (k := 1) C dX6_winningHit_17 ?_
  refine am_icmp_geN (pc := 18) (tgt := 23) C dX6_winningHit_18 (by decide) (by omega) (by omega) (fun q18 => ?_) (fun q18 => ?_)
  · skip
    refine am_iconstN (pc := 23) (k := 0) C dX6_winningHit_23 ?_
    refine am_istore (pc := 24) (ls' := [(0, .ref 314), (1, .int (nI a)), (2, .int (nI b)), (3, .int (nI (rf_bc (rf_roots w (rf_known w a))))), (4, .int (rf_roots w (rf_known w b))), (5, .int (nI 0))]) C dX6_winningHit_24 (by decide) rfl ?_
    have L26 : ∀ (j26 : Nat) (m : Nat), (hmj : m + j26 = rf_M w) → (hms : rf_sea (fun m => am_bt (rf_known w b) m && !rf_race (rf_bc (rf_roots w (rf_known w b) &&& ((nI 1 <<< (nI m &&& 31)) ^^^ (-1)))) (rf_bc (rf_roots w (rf_known w a)))) (fun m => nI m) j26 m = rf_sea (fun m => am_bt (rf_known w b) m && !rf_race (rf_bc (rf_roots w (rf_known w b) &&& ((nI 1 <<< (nI m &&& 31)) ^^^ (-1)))) (rf_bc (rf_roots w (rf_known w a)))) (fun m => nI m) (rf_M w) 0) → am_G X (am_VV ad) (0, 0) 26 [(0, .ref 314), (1, .int (nI a)), (2, .int (nI b)), (3, .int (nI (rf_bc (rf_roots w (rf_known w a))))), (4, .int (rf_roots w (rf_known w b))), (5, .int (nI m))] [] r h := by
      intro j26
      induction j26 with
      | zero =>
        intro m hmj hms
        refine am_iload (pc := 26) C dX6_winningHit_26 rfl ?_
        refine am_aload_n (pc := 28) C dX6_winningHit_28 rfl ?_
        refine am_getR (pc := 29) (j := 4) C dX6_winningHit_29 f6_21 bn_314 sh_314 (rf_314_1 hR) ?_
        refine am_getI (pc := 32) C dX6_winningHit_32 f6_67 bn_4 sh_4 ?_
        refine am_top (show ((h 4) 1) = (nI (rf_M w)) from (hLo.1.2.1.trans hV.1.1.1)) ?_
        refine am_icmp_geN (pc := 35) (tgt := 85) C dX6_winningHit_35 (by decide) (by omega) (by omega) (fun q35 => ?_) (fun q35 => ?_)
        · skip
          refine am_iconst (pc := 85) (v := -1) C dX6_winningHit_85 rfl ?_
          exact am_ireti T dX6_winningHit_86 rfl (Nat.le_refl _) (Nat.le_refl _) (by rw [if_neg (by omega), ← hms]; rfl) rfl rfl
        · skip
          exact absurd hmj (by omega)
      | succ j26 ih26 =>
        intro m hmj hms
        refine am_iload (pc := 26) C dX6_winningHit_26 rfl ?_
        refine am_aload_n (pc := 28) C dX6_winningHit_28 rfl ?_
        refine am_getR (pc := 29) (j := 4) C dX6_winningHit_29 f6_21 bn_314 sh_314 (rf_314_1 hR) ?_
        refine am_getI (pc := 32) C dX6_winningHit_32 f6_67 bn_4 sh_4 ?_
        refine am_top (show ((h 4) 1) = (nI (rf_M w)) from (hLo.1.2.1.trans hV.1.1.1)) ?_
        refine am_icmp_geN (pc := 35) (tgt := 85) C dX6_winningHit_35 (by decide) (by omega) (by omega) (fun q35 => ?_) (fun q35 => ?_)
        · skip
          exact absurd q35 (by omega)
        · skip
          refine am_aload_n (pc := 38) C dX6_winningHit_38 rfl ?_
          refine am_getR (pc := 39) (j := 25) C dX6_winningHit_39 f6_26 bn_314 sh_314 (rf_314_2 hR) ?_
          refine am_getR (pc := 42) (j := 29) C dX6_winningHit_42 f6_120 bn_25 sh_25 (rf_25_8 hR) ?_
          refine am_iload_n (pc := 45) C dX6_winningHit_45 rfl ?_
          refine am_callSNi (Y := mX11_pick) (pc := 46) (st := []) (As := [.ref 29, .int (nI b)]) (x := ((h 29) b)) (h2 := h) C dX6_winningHit_46 k6_40 v_X11_pick rfl rfl (by decide) (Nat.zero_le _) (Nat.zero_le _) (Nat.le_of_ble_eq_true rfl) (c_X11_pick 29 b 10 bn_29 sh_29 (show b < 10 from by omega) (by decide)) ?_
          refine am_top (show ((h 29) b) = (rf_known w b) from (hSc.2.1 b (by omega)).2.2.2.1) ?_
          refine am_iload (pc := 49) C dX6_winningHit_49 rfl ?_
          refine am_callSNi (Y := mX11_has) (pc := 51) (st := []) (As := [.int (rf_known w b), .int (nI m)]) (x := (am_b (am_bt (rf_known w b) m))) (h2 := h) C dX6_winningHit_51 k6_53 v_X11_has rfl rfl (by decide) (Nat.zero_le _) (Nat.zero_le _) (Nat.le_of_ble_eq_true rfl) (c_X11_has (rf_known w b) m (show m < 32 from by omega)) ?_
          refine am_if_eqB (pc := 54) (tgt := 79) C dX6_winningHit_54 (by decide) (fun q54 => ?_) (fun q54 => ?_)
          · skip
            refine am_iincN (pc := 79) (ls' := [(0, .ref 314), (1, .int (nI a)), (2, .int (nI b)), (3, .int (nI (rf_bc (rf_roots w (rf_known w a))))), (4, .int (rf_roots w (rf_known w b))), (5, .int (nI (m + 1)))]) C dX6_winningHit_79 rfl (am_up1 _) (by decide) rfl ?_
            refine am_goto (pc := 82) (tgt := 26) C dX6_winningHit_82 (by decide) ?_
            exact ih26 (m + 1) (by omega) (Eq.trans (Eq.symm (rf_sea_f (by show (_ && _) = false; rw [q54]; rfl))) hms)
          · skip
            refine am_iload (pc := 57) C dX6_winningHit_57 rfl ?_
            refine am_iconstN (pc := 59) (k := 1) C dX6_winningHit_59 ?_
            refine am_iload (pc := 60) C dX6_winningHit_60 rfl ?_
            refine am_ishl (pc := 62) C dX6_winningHit_62 ?_
            refine am_iconst (pc := 63) (v := -1) C dX6_winningHit_63 rfl ?_
            refine am_ixor (pc := 64) C dX6_winningHit_64 ?_
            refine am_iand (pc := 65) C dX6_winningHit_65 ?_
            refine am_callSi (Y := mJ6_bitCount_0f7a4) (pc := 66) (st := []) (As := [.int ((rf_roots w (rf_known w b)) &&& (((nI 1) <<< ((nI m) &&& 31)) ^^^ (-1)))]) (x := (rf_pc ((rf_roots w (rf_known w b)) &&& (((nI 1) <<< ((nI m) &&& 31)) ^^^ (-1))))) (h2 := h) C dX6_winningHit_66 k6_83 v_J6_bitCount_0f7a4 rfl rfl (by decide) (Nat.zero_le _) (Nat.zero_le _) (Nat.le_of_ble_eq_true rfl) (c_J6_bitCount_0f7a4 hR ((rf_roots w (rf_known w b)) &&& (((nI 1) <<< ((nI m) &&& 31)) ^^^ (-1)))) ?_
            refine am_top (show (rf_pc ((rf_roots w (rf_known w b)) &&& (((nI 1) <<< ((nI m) &&& 31)) ^^^ (-1)))) = (nI (rf_bc (rf_roots w (rf_known w b) &&& ((nI 1 <<< (nI m &&& 31)) ^^^ (-1))))) from (rf_pc_bc (am_lo_and (rf_roots_lo (by omega))))) ?_
            have hb3 := rf_bc_le (rf_roots w (rf_known w b) &&& ((nI 1 <<< (nI m &&& 31)) ^^^ (-1)))
            refine am_iload_n (pc := 69) C dX6_winningHit_69 rfl ?_
            refine am_callSi (Y := mX6_winsRace) (pc := 70) (st := []) (As := [.int (nI (rf_bc (rf_roots w (rf_known w b) &&& ((nI 1 <<< (nI m &&& 31)) ^^^ (-1))))), .int (nI (rf_bc (rf_roots w (rf_known w a))))]) (x := (am_b (rf_race (rf_bc (rf_roots w (rf_known w b) &&& ((nI 1 <<< (nI m &&& 31)) ^^^ (-1)))) (rf_bc (rf_roots w (rf_known w a)))))) (h2 := h) C dX6_winningHit_70 k6_129 v_X6_winsRace rfl rfl (by decide) (Nat.zero_le _) (Nat.zero_le _) (Nat.le_of_ble_eq_true rfl) (c_X6_winsRace hR (rf_bc (rf_roots w (rf_known w b) &&& ((nI 1 <<< (nI m &&& 31)) ^^^ (-1)))) (rf_bc (rf_roots w (rf_known w a))) (show (rf_bc (rf_roots w (rf_known w b) &&& ((nI 1 <<< (nI m &&& 31)) ^^^ (-1)))) < 100 from by omega) (show (rf_bc (rf_roots w (rf_known w a))) < 100 from by omega)) ?_
            refine am_if_neB (pc := 73) (tgt := 79) C dX6_winningHit_73 (by decide) (fun q73 => ?_) (fun q73 => ?_)
            · skip
              refine am_iincN (pc := 79) (ls' := [(0, .ref 314), (1, .int (nI a)), (2, .int (nI b)), (3, .int (nI (rf_bc (rf_roots w (rf_known w a))))), (4, .int (rf_roots w (rf_known w b))), (5, .int (nI (m + 1)))]) C dX6_winningHit_79 rfl (am_up1 _) (by decide) rfl ?_
              refine am_goto (pc := 82) (tgt := 26) C dX6_winningHit_82 (by decide) ?_
              exact ih26 (m + 1) (by omega) (Eq.trans (Eq.symm (rf_sea_f (by show (_ && _) = false; rw [q73, Bool.not_true, Bool.and_false]))) hms)
            · skip
              refine am_iload (pc := 76) C dX6_winningHit_76 rfl ?_
              exact am_ireti T dX6_winningHit_78 rfl (Nat.le_refl _) (Nat.le_refl _) (by rw [if_neg (by omega), ← hms]; exact (rf_sea_t (by show (_ && _) = true; rw [q54, q73]; rfl)).symm) rfl rfl
    exact L26 (rf_M w) 0 (by omega) rfl
  · skip
    refine am_iconst (pc := 21) (v := -1) C dX6_winningHit_21 rfl ?_
    exact am_ireti T dX6_winningHit_22 rfl (Nat.le_refl _) (Nat.le_refl _) (by rw [if_pos (by omega)]) rfl rfl

set_option maxHeartbeats 400000 in
set_option maxRecDepth 100000 in
theorem c_X6_undoneBy {ad : Nat → Nat} {r : am_R} (hR : am_rs r) {h : am_H} (set : Int32) (w : rf_W) (hV : rf_I w) (hLo : cl_Lo (h) 4 w) (hSc : cl_Sc (h) 25 w)  : am_CM mX6_undoneBy 3 0 0 [.ref 314, .int set] (am_VV ad) r h (am_po (some (.int (rf_un w set (rf_M w)))) r h) := by
  refine am_CM.of (by decide +kernel) (Nat.le_of_ble_eq_true rfl) (fun X C T => ?_)
  show am_G X (am_VV ad) (0, 0) 0 [(0, .ref 314), (1, .int set)] [] r h
  have hM9 : rf_M w < 17 := hV.1.1.2
  have hS9 : rf_S w < 11 := hV.1.2.1.2
  have hO9 : rf_O w < 11 := hV.1.2.2.2
  refine am_iconst (pc := 0) (v := -1) C dX6_undoneBy_0 rfl ?_
  refine am_istore_n (pc := 1) (ls' := [(0, .ref 314), (1, .int set), (2, .int (-1))]) C dX6_undoneBy_1 (by decide) rfl ?_
  refine am_iconstN (pc := 2) (k := 0) C dX6_undoneBy_2 ?_
  refine am_istore_n (pc := 3) (ls' := [(0, .ref 314), (1, .int set), (2, .int (-1)), (3, .int (nI 0))]) C dX6_undoneBy_3 (by decide) rfl ?_
  have L4 : ∀ (j4 i4 : Nat), i4 + j4 = rf_M w → am_G X (am_VV ad) (0, 0) 4 [(0, .ref 314), (1, .int set), (2, .int (rf_un w set i4)), (3, .int (nI i4))] [] r h := by
    intro j4
    induction j4 with
    | zero =>
      intro i4 hi4 
      obtain rfl : i4 = rf_M w := by omega
      refine am_iload_n (pc := 4) C dX6_undoneBy_4 rfl ?_
      refine am_aload_n (pc := 5) C dX6_undoneBy_5 rfl ?_
      refine am_getR (pc := 6) (j := 4) C dX6_undoneBy_6 f6_21 bn_314 sh_314 (rf_314_1 hR) ?_
      refine am_getI (pc := 9) C dX6_undoneBy_9 f6_67 bn_4 sh_4 ?_
      refine am_top (show ((h 4) 1) = (nI (rf_M w)) from (hLo.1.2.1.trans hV.1.1.1)) ?_
      refine am_icmp_geN (pc := 12) (tgt := 97) C dX6_undoneBy_12 (by decide) (by omega) (by omega) (fun q12 => ?_) (fun q12 => ?_)
      · skip
        refine am_iload_n (pc := 97) C dX6_undoneBy_97 rfl ?_
        exact am_ireti T dX6_undoneBy_98 rfl (Nat.le_refl _) (Nat.le_refl _) rfl rfl rfl
      · skip
        exact absurd q12 (by omega)
    | succ j4 ih4 =>
      intro i4 hi4 
      have hl4 : i4 < rf_M w := by omega
      refine am_iload_n (pc := 4) C dX6_undoneBy_4 rfl ?_
      refine am_aload_n (pc := 5) C dX6_undoneBy_5 rfl ?_
      refine am_getR (pc := 6) (j := 4) C dX6_undoneBy_6 f6_21 bn_314 sh_314 (rf_314_1 hR) ?_
      refine am_getI (pc := 9) C dX6_undoneBy_9 f6_67 bn_4 sh_4 ?_
      refine am_top (show ((h 4) 1) = (nI (rf_M w)) from (hLo.1.2.1.trans hV.1.1.1)) ?_
      refine am_icmp_geN (pc := 12) (tgt := 97) C dX6_undoneBy_12 (by decide) (by omega) (by omega) (fun q12 => ?_) (fun q12 => ?_)
      · skip
        exact absurd q12 (by omega)
      · skip
        refine am_iload_n (pc := 15) C dX6_undoneBy_15 rfl ?_
        refine am_iload_n (pc := 16) C dX6_undoneBy_16 rfl ?_
        refine am_callSNi (Y := mX11_has) (pc := 17) (st := []) (As := [.int set, .int (nI i4)]) (x := (am_b (am_bt set i4))) (h2 := h) C dX6_undoneBy_17 k6_53 v_X11_has rfl rfl (by decide) (Nat.zero_le _) (Nat.zero_le _) (Nat.le_of_ble_eq_true rfl) (c_X11_has set i4 (show i4 < 32 from by omega)) ?_
        refine am_if_eqB (pc := 20) (tgt := 91) C dX6_undoneBy_20 (by decide) (fun q20 => ?_) (fun q20 => ?_)
        · skip
          refine am_iincN (pc := 91) (ls' := [(0, .ref 314), (1, .int set), (2, .int (rf_un w set i4)), (3, .int (nI (i4 + 1)))]) C dX6_undoneBy_91 rfl (am_up1 _) (by decide) rfl ?_
          refine am_goto (pc := 94) (tgt := 4) C dX6_undoneBy_94 (by decide) ?_
          refine am_lsv (ls' := [(0, .ref 314), (1, .int set), (2, .int (rf_un w set (i4 + 1))), (3, .int (nI (i4 + 1)))]) (by rw [show (rf_un w set i4) = (rf_un w set (i4 + 1)) from (by rw [rf_un, if_neg (by rw [q20]; exact Bool.false_ne_true)])]) ?_
          exact ih4 (i4 + 1) (by omega) 
        · skip
          refine am_aload_n (pc := 23) C dX6_undoneBy_23 rfl ?_
          refine am_getR (pc := 24) (j := 3) C dX6_undoneBy_24 f6_9 bn_314 sh_314 (rf_314_0 hR) ?_
          refine am_iload_n (pc := 27) C dX6_undoneBy_27 rfl ?_
          refine am_callVi (Y := mX10_whoUse) (pc := 28) (st := []) (As := [.int (nI i4)]) (x := (rf_users w i4)) (h2 := h) C dX6_undoneBy_28 k6_76 v_X10_whoUse rfl rfl bn_3 sh_3 ⟨by decide, rfl⟩ (by decide) (Nat.zero_le _) (Nat.zero_le _) (Nat.le_of_ble_eq_true rfl) (c_X10_whoUse hR i4 w hV hLo hSc (show i4 < 32 from by omega)) ?_
          refine am_istore (pc := 31) (ls' := [(0, .ref 314), (1, .int set), (2, .int (rf_un w set i4)), (3, .int (nI i4)), (4, .int (rf_users w i4))]) C dX6_undoneBy_31 (by decide) rfl ?_
          refine am_iload (pc := 33) C dX6_undoneBy_33 rfl ?_
          refine am_aload_n (pc := 35) C dX6_undoneBy_35 rfl ?_
          refine am_getR (pc := 36) (j := 3) C dX6_undoneBy_36 f6_9 bn_314 sh_314 (rf_314_0 hR) ?_
          refine am_iconstN (pc := 39) (k := 0) C dX6_undoneBy_39 ?_
          refine am_callVi (Y := mX10_sideBits) (pc := 40) (st := [.int (rf_users w i4)]) (As := [.int (nI 0)]) (x := (rf_sideOf w (nI 0))) (h2 := h) C dX6_undoneBy_40 k6_80 v_X10_sideBits rfl rfl bn_3 sh_3 ⟨by decide, rfl⟩ (by decide) (Nat.zero_le _) (Nat.zero_le _) (Nat.le_of_ble_eq_true rfl) (c_X10_sideBits hR (nI 0) w hV hLo hSc) ?_
          refine am_iand (pc := 43) C dX6_undoneBy_43 ?_
          refine am_callSi (Y := mJ6_bitCount_0f7a4) (pc := 44) (st := []) (As := [.int ((rf_users w i4) &&& (rf_sideOf w (nI 0)))]) (x := (rf_pc ((rf_users w i4) &&& (rf_sideOf w (nI 0))))) (h2 := h) C dX6_undoneBy_44 k6_83 v_J6_bitCount_0f7a4 rfl rfl (by decide) (Nat.zero_le _) (Nat.zero_le _) (Nat.le_of_ble_eq_true rfl) (c_J6_bitCount_0f7a4 hR ((rf_users w i4) &&& (rf_sideOf w (nI 0)))) ?_
          refine am_istore (pc := 47) (ls' := [(0, .ref 314), (1, .int set), (2, .int (rf_un w set i4)), (3, .int (nI i4)), (4, .int (rf_users w i4)), (5, .int (rf_pc ((rf_users w i4) &&& (rf_sideOf w (nI 0)))))]) C dX6_undoneBy_47 (by decide) rfl ?_
          refine am_iload (pc := 49) C dX6_undoneBy_49 rfl ?_
          refine am_aload_n (pc := 51) C dX6_undoneBy_51 rfl ?_
          refine am_getR (pc := 52) (j := 3) C dX6_undoneBy_52 f6_9 bn_314 sh_314 (rf_314_0 hR) ?_
          refine am_iconstN (pc := 55) (k := 1) C dX6_undoneBy_55 ?_
          refine am_callVi (Y := mX10_sideBits) (pc := 56) (st := [.int (rf_users w i4)]) (As := [.int (nI 1)]) (x := (rf_sideOf w (nI 1))) (h2 := h) C dX6_undoneBy_56 k6_80 v_X10_sideBits rfl rfl bn_3 sh_3 ⟨by decide, rfl⟩ (by decide) (Nat.zero_le _) (Nat.zero_le _) (Nat.le_of_ble_eq_true rfl) (c_X10_sideBits hR (nI 1) w hV hLo hSc) ?_
          refine am_iand (pc := 59) C dX6_undoneBy_59 ?_
          refine am_callSi (Y := mJ6_bitCount_0f7a4) (pc := 60) (st := []) (As := [.int ((rf_users w i4) &&& (rf_sideOf w (nI 1)))]) (x := (rf_pc ((rf_users w i4) &&& (rf_sideOf w (nI 1))))) (h2 := h) C dX6_undoneBy_60 k6_83 v_J6_bitCount_0f7a4 rfl rfl (by decide) (Nat.zero_le _) (Nat.zero_le _) (Nat.le_of_ble_eq_true rfl) (c_J6_bitCount_0f7a4 hR ((rf_users w i4) &&& (rf_sideOf w (nI 1)))) ?_
          refine am_istore (pc := 63) (ls' := [(0, .ref 314), (1, .int set), (2, .int (rf_un w set i4)), (3, .int (nI i4)), (4, .int (rf_users w i4)), (5, .int (rf_pc ((rf_users w i4) &&& (rf_sideOf w (nI 0))))), (6, .int (rf_pc ((rf_users w i4) &&& (rf_sideOf w (nI 1)))))]) C dX6_undoneBy_63 (by decide) rfl ?_
          refine am_iload (pc := 65) C dX6_undoneBy_65 rfl ?_
          refine am_iload (pc := 67) C dX6_undoneBy_67 rfl ?_
          refine am_callSi (Y := mJ9_min_7cf53) (pc := 69) (st := []) (As := [.int (rf_pc ((rf_users w i4) &&& (rf_sideOf w (nI 0)))), .int (rf_pc ((rf_users w i4) &&& (rf_sideOf w (nI 1))))]) (x := (rf_min (rf_pc ((rf_users w i4) &&& (rf_sideOf w (nI 0)))) (rf_pc ((rf_users w i4) &&& (rf_sideOf w (nI 1)))))) (h2 := h) C dX6_undoneBy_69 k6_114 v_J9_min_7cf53 rfl rfl (by decide) (Nat.zero_le _) (Nat.zero_le _) (Nat.le_of_ble_eq_true rfl) (c_J9_min_7cf53 hR (rf_pc ((rf_users w i4) &&& (rf_sideOf w (nI 0)))) (rf_pc ((rf_users w i4) &&& (rf_sideOf w (nI 1))))) ?_
          refine am_istore (pc := 72) (ls' := [(0, .ref 314), (1, .int set), (2, .int (rf_un w set i4)), (3, .int (nI i4)), (4, .int (rf_users w i4)), (5, .int (rf_pc ((rf_users w i4) &&& (rf_sideOf w (nI 0))))), (6, .int (rf_pc ((rf_users w i4) &&& (rf_sideOf w (nI 1))))), (7, .int (rf_min (rf_pc ((rf_users w i4) &&& (rf_sideOf w (nI 0)))) (rf_pc ((rf_users w i4) &&& (rf_sideOf w (nI 1))))))]) C dX6_undoneBy_72 (by decide) rfl ?_
          refine am_iload_n (pc := 74) C dX6_undoneBy_74 rfl ?_
          refine am_iconst (pc := 75) (v := -1) C dX6_undoneBy_75 rfl ?_
          refine am_icmp_ne (pc := 76) (tgt := 84) C dX6_undoneBy_76 (by decide) (fun q76 => ?_) (fun q76 => ?_)
          · skip
            refine am_iload_n (pc := 84) C dX6_undoneBy_84 rfl ?_
            refine am_iload (pc := 85) C dX6_undoneBy_85 rfl ?_
            refine am_callSi (Y := mJ9_min_7cf53) (pc := 87) (st := []) (As := [.int (rf_un w set i4), .int (rf_min (rf_pc ((rf_users w i4) &&& (rf_sideOf w (nI 0)))) (rf_pc ((rf_users w i4) &&& (rf_sideOf w (nI 1)))))]) (x := (rf_min (rf_un w set i4) (rf_min (rf_pc ((rf_users w i4) &&& (rf_sideOf w (nI 0)))) (rf_pc ((rf_users w i4) &&& (rf_sideOf w (nI 1))))))) (h2 := h) C dX6_undoneBy_87 k6_114 v_J9_min_7cf53 rfl rfl (by decide) (Nat.zero_le _) (Nat.zero_le _) (Nat.le_of_ble_eq_true rfl) (c_J9_min_7cf53 hR (rf_un w set i4) (rf_min (rf_pc ((rf_users w i4) &&& (rf_sideOf w (nI 0)))) (rf_pc ((rf_users w i4) &&& (rf_sideOf w (nI 1)))))) ?_
            refine am_istore_n (pc := 90) (ls' := [(0, .ref 314), (1, .int set), (2, .int (rf_min (rf_un w set i4) (rf_min (rf_pc ((rf_users w i4) &&& (rf_sideOf w (nI 0)))) (rf_pc ((rf_users w i4) &&& (rf_sideOf w (nI 1))))))), (3, .int (nI i4)), (4, .int (rf_users w i4)), (5, .int (rf_pc ((rf_users w i4) &&& (rf_sideOf w (nI 0))))), (6, .int (rf_pc ((rf_users w i4) &&& (rf_sideOf w (nI 1))))), (7, .int (rf_min (rf_pc ((rf_users w i4) &&& (rf_sideOf w (nI 0)))) (rf_pc ((rf_users w i4) &&& (rf_sideOf w (nI 1))))))]) C dX6_undoneBy_90 (by decide) rfl ?_
            refine am_iincN (pc := 91) (ls' := [(0, .ref 314), (1, .int set), (2, .int (rf_min (rf_un w set i4) (rf_min (rf_pc ((rf_users w i4) &&& (rf_sideOf w (nI 0)))) (rf_pc ((rf_users w i4) &&& (rf_sideOf w (nI 1))))))), (3, .int (nI (i4 + 1))), (4, .int (rf_users w i4)), (5, .int (rf_pc ((rf_users w i4) &&& (rf_sideOf w (nI 0))))), (6, .int (rf_pc ((rf_users w i4) &&& (rf_sideOf w (nI 1))))), (7, .int (rf_min (rf_pc ((rf_users w i4) &&& (rf_sideOf w (nI 0)))) (rf_pc ((rf_users w i4) &&& (rf_sideOf w (nI 1))))))]) C dX6_undoneBy_91 rfl (am_up1 _) (by decide) rfl ?_
            refine am_goto (pc := 94) (tgt := 4) C dX6_undoneBy_94 (by decide) ?_
            refine am_sub (ls' := [(0, .ref 314), (1, .int set), (2, .int (rf_min (rf_un w set i4) (rf_min (rf_pc ((rf_users w i4) &&& (rf_sideOf w (nI 0)))) (rf_pc ((rf_users w i4) &&& (rf_sideOf w (nI 1))))))), (3, .int (nI (i4 + 1)))]) (by intro q hq; simp only [List.mem_cons, List.not_mem_nil, or_false] at hq ⊢; rcases hq with rfl | rfl | rfl | rfl <;> simp) ?_
            refine am_lsv (ls' := [(0, .ref 314), (1, .int set), (2, .int (rf_un w set (i4 + 1))), (3, .int (nI (i4 + 1)))]) (by rw [show (rf_min (rf_un w set i4) (rf_min (rf_pc ((rf_users w i4) &&& (rf_sideOf w (nI 0)))) (rf_pc ((rf_users w i4) &&& (rf_sideOf w (nI 1)))))) = (rf_un w set (i4 + 1)) from (by rw [rf_un, if_pos q20, if_neg q76])]) ?_
            exact ih4 (i4 + 1) (by omega) 
          · skip
            refine am_iload (pc := 79) C dX6_undoneBy_79 rfl ?_
            refine am_goto (pc := 81) (tgt := 90) C dX6_undoneBy_81 (by decide) ?_
            refine am_istore_n (pc := 90) (ls' := [(0, .ref 314), (1, .int set), (2, .int (rf_min (rf_pc ((rf_users w i4) &&& (rf_sideOf w (nI 0)))) (rf_pc ((rf_users w i4) &&& (rf_sideOf w (nI 1)))))), (3, .int (nI i4)), (4, .int (rf_users w i4)), (5, .int (rf_pc ((rf_users w i4) &&& (rf_sideOf w (nI 0))))), (6, .int (rf_pc ((rf_users w i4) &&& (rf_sideOf w (nI 1))))), (7, .int (rf_min (rf_pc ((rf_users w i4) &&& (rf_sideOf w (nI 0)))) (rf_pc ((rf_users w i4) &&& (rf_sideOf w (nI 1))))))]) C dX6_undoneBy_90 (by decide) rfl ?_
            refine am_iincN (pc := 91) (ls' := [(0, .ref 314), (1, .int set), (2, .int (rf_min (rf_pc ((rf_users w i4) &&& (rf_sideOf w (nI 0)))) (rf_pc ((rf_users w i4) &&& (rf_sideOf w (nI 1)))))), (3, .int (nI (i4 + 1))), (4, .int (rf_users w i4)), (5, .int (rf_pc ((rf_users w i4) &&& (rf_sideOf w (nI 0))))), (6, .int (rf_pc ((rf_users w i4) &&& (rf_sideOf w (nI 1))))), (7, .int (rf_min (rf_pc ((rf_users w i4) &&& (rf_sideOf w (nI 0)))) (rf_pc ((rf_users w i4) &&& (rf_sideOf w (nI 1))))))]) C dX6_undoneBy_91 rfl (am_up1 _) (by decide) rfl ?_
            refine am_goto (pc := 94) (tgt := 4) C dX6_undoneBy_94 (by decide) ?_
            refine am_sub (ls' := [(0, .ref 314), (1, .int set), (2, .int (rf_min (rf_pc ((rf_users w i4) &&& (rf_sideOf w (nI 0)))) (rf_pc ((rf_users w i4) &&& (rf_sideOf w (nI 1)))))), (3, .int (nI (i4 + 1)))]) (by intro q hq; simp only [List.mem_cons, List.not_mem_nil, or_false] at hq ⊢; rcases hq with rfl | rfl | rfl | rfl <;> simp) ?_
            refine am_lsv (ls' := [(0, .ref 314), (1, .int set), (2, .int (rf_un w set (i4 + 1))), (3, .int (nI (i4 + 1)))]) (by rw [show (rf_min (rf_pc ((rf_users w i4) &&& (rf_sideOf w (nI 0)))) (rf_pc ((rf_users w i4) &&& (rf_sideOf w (nI 1))))) = (rf_un w set (i4 + 1)) from (by rw [rf_un, if_pos q20, if_pos q76])]) ?_
            exact ih4 (i4 + 1) (by omega) 
  refine am_sub (ls' := [(0, .ref 314), (1, .int set), (2, .int (-1)), (3, .int (nI 0))]) (by intro q hq; simp only [List.mem_cons, List.not_mem_nil, or_false] at hq ⊢; rcases hq with rfl | rfl | rfl | rfl <;> simp) ?_
  refine am_lsv (ls' := [(0, .ref 314), (1, .int set), (2, .int (rf_un w set 0)), (3, .int (nI 0))]) (by rw [show (-1) = (rf_un w set 0) from rfl]) ?_
  exact L4 (rf_M w) 0 (by omega) 

