/-! whose the gathered memories can be: contracts -/
theorem rf_m3_at {wh : Nat → Int32} {S n i j : Nat} {row : rf_W} (h : ∀ g, g ≤ n → ∀ j, j < 2 ^ S → row ((n - g) * 1024 + j) = rf_ways wh S n g j) (_h0 : 0 < n) (hi : i < n) (hj : j < 2 ^ S) : row ((i + 1) * 1024 + j) = rf_ways wh S n (n - (i + 1)) j := by
  have := h (n - (i + 1)) (by omega) j hj
  rw [show n - (n - (i + 1)) = i + 1 by omega] at this
  exact this
theorem rf_mis_n {w t : rf_W} {e i : Nat} {k : Int32} (h : rf_mis w t e k i = true) (h2 : (!rf_okN (t i) (rf_M w)) = true) : rf_mis w t e k (i + 1) = false := by
  rw [Bool.not_eq_true'] at h2
  rw [rf_mis, rf_mok, h2, Bool.and_false, Bool.and_false]
theorem rf_mis_y {w t : rf_W} {e i : Nat} {k : Int32} (h : rf_mis w t e k i = true) (h2 : (!rf_okN (t i) (rf_M w)) = false) : rf_mis w t e k (i + 1) = true := by
  rw [Bool.not_eq_false'] at h2
  rw [rf_mis, Bool.and_eq_true] at h
  rw [rf_mis, rf_mok, h2, h.1, h.2]
  rfl
theorem rf_kin {k : Int32} {e : Nat} (h : rf_in k (-1) (nI e - nI 1) = true) (hk : ¬ k = -1) (he : e < 1073741824 := by omega) : rf_n k e := by
  simp only [rf_in, Bool.and_eq_true, decide_eq_true_eq] at h
  refine rf_okN_n he ?_
  simp only [rf_okN, Bool.and_eq_true, decide_eq_true_eq]
  refine ⟨?_, h.2⟩
  have h1 := h.1
  rw [Int32.le_iff_toInt_le] at h1 ⊢
  have e1 : (-1 : Int32).toInt = -1 := by decide
  have e0 : (nI 0).toInt = 0 := by decide
  rw [e1] at h1
  rw [e0]
  have h3 : k.toInt ≠ -1 := fun z => hk (Int32.toInt_inj.mp (by rw [z, e1]))
  omega
/-- the latest of the first i who got one: place and one -/
def rf_lst (wh : Nat → Int32) (S n : Nat) : Nat → Nat
  | 0 => 0
  | i + 1 => rf_pk wh S n i (rf_gn wh S n i) + 1

set_option maxHeartbeats 400000 in
set_option maxRecDepth 100000 in
theorem c_X12_matchesAll {ad : Nat → Nat} {r : am_R} (hR : am_rs r) {h : am_H} (place : Int32) (n : Nat) (hV : rf_I (h 323)) (hn8 : n ≤ 8) (htp : ∀ i, i < n → rf_n ((h 328) i) (rf_M (h 323))) (hh : rf_n ((h 323) 5) 1073741824)  : am_CM mX12_matchesAll 3 0 0 [.ref 322, .int place, .int (nI n)] (am_VV ad) r h (am_po none r (am_row (am_row h 333 (rf_wr (h 333) (rf_wh (h 323) (h 328) place) n)) 334 (rf_m3 (rf_wh (h 323) (h 328) place) (rf_S (h 323)) n (rf_m1 (h 334) n (2 ^ rf_S (h 323))) n))) := by
  refine am_CM.of (by decide +kernel) (Nat.le_of_ble_eq_true rfl) (fun X C T => ?_)
  show am_G X (am_VV ad) (0, 0) 0 [(0, .ref 322), (1, .int place), (2, .int (nI n))] [] r h
  have hM9 : rf_M (h 323) < 17 := hV.1.1.2
  have hS9 : rf_S (h 323) < 11 := hV.1.2.1.2
  have hO9 : rf_O (h 323) < 11 := hV.1.2.2.2
  have hp2 : (2 ^ rf_S (h 323)) ≤ 2 ^ 10 := Nat.pow_le_pow_right (by decide) (by omega)
  refine am_iconstN (pc := 0) (k := 0) C dX12_matchesAll_0 ?_
  refine am_istore_n (pc := 1) (ls' := [(0, .ref 322), (1, .int place), (2, .int (nI n)), (3, .int (nI 0))]) C dX12_matchesAll_1 (by decide) rfl ?_
  have L2 : ∀ (j2 i2 : Nat), i2 + j2 = n → am_G X (am_VV ad) (0, 0) 2 [(0, .ref 322), (1, .int place), (2, .int (nI n)), (3, .int (nI i2))] [] r (am_row h 333 (rf_wr (h 333) (rf_wh (h 323) (h 328) place) i2)) := by
    intro j2
    induction j2 with
    | zero =>
      intro i2 hi2 
      obtain rfl : n = i2 := by omega
      refine am_iload_n (pc := 2) C dX12_matchesAll_2 rfl ?_
      refine am_iload_n (pc := 3) C dX12_matchesAll_3 rfl ?_
      refine am_icmp_geN (pc := 4) (tgt := 83) C dX12_matchesAll_4 (by decide) (by omega) (by omega) (fun q4 => ?_) (fun q4 => ?_)
      · skip
        refine am_iconstN (pc := 83) (k := 0) C dX12_matchesAll_83 ?_
        refine am_istore_n (pc := 84) (ls' := [(0, .ref 322), (1, .int place), (2, .int (nI n)), (3, .int (nI 0))]) C dX12_matchesAll_84 (by decide) rfl ?_
        have L85 : ∀ (j85 i85 : Nat), i85 + j85 = (2 ^ rf_S (h 323)) → am_G X (am_VV ad) (0, 0) 85 [(0, .ref 322), (1, .int place), (2, .int (nI n)), (3, .int (nI i85))] [] r (am_row (am_row h 333 (rf_wr (h 333) (rf_wh (h 323) (h 328) place) n)) 334 (rf_m1 (h 334) n i85)) := by
          intro j85
          induction j85 with
          | zero =>
            intro i85 hi85 
            obtain rfl : i85 = (2 ^ rf_S (h 323)) := by omega
            refine am_iload_n (pc := 85) C dX12_matchesAll_85 rfl ?_
            refine am_iconstN (pc := 86) (k := 1) C dX12_matchesAll_86 ?_
            refine am_aload_n (pc := 87) C dX12_matchesAll_87 rfl ?_
            refine am_callVi (Y := mX12_soldiers) (pc := 88) (st := [.int (nI 1), .int (nI (2 ^ rf_S (h 323)))]) (As := []) (x := (nI (rf_S (h 323)))) (h2 := (am_row (am_row h 333 (rf_wr (h 333) (rf_wh (h 323) (h 328) place) n)) 334 (rf_m1 (h 334) n (2 ^ rf_S (h 323))))) C dX12_matchesAll_88 k12_75 v_X12_soldiers rfl rfl bn_322 sh_322 ⟨by decide, rfl⟩ (by decide) (Nat.zero_le _) (Nat.zero_le _) (Nat.le_of_ble_eq_true rfl) (c_X12_soldiers hR (show rf_Cn (h 323) from hV.1)) ?_
            refine am_ishl (pc := 91) C dX12_matchesAll_91 ?_
            refine am_top (show ((nI 1) <<< ((nI (rf_S (h 323))) &&& 31)) = (nI (2 ^ rf_S (h 323))) from (am_shl1 (by omega))) ?_
            refine am_icmp_geN (pc := 92) (tgt := 113) C dX12_matchesAll_92 (by decide) (by omega) (by omega) (fun q92 => ?_) (fun q92 => ?_)
            · skip
              refine am_iload_n (pc := 113) C dX12_matchesAll_113 rfl ?_
              refine am_iconstN (pc := 114) (k := 1) C dX12_matchesAll_114 ?_
              refine am_isub (pc := 115) C dX12_matchesAll_115 ?_
              refine am_istore_n (pc := 116) (ls' := [(0, .ref 322), (1, .int place), (2, .int (nI n)), (3, .int ((nI n) - (nI 1)))]) C dX12_matchesAll_116 (by decide) rfl ?_
              have L117 : ∀ (j117 : Nat) , (hjn : j117 ≤ n) → am_G X (am_VV ad) (0, 0) 117 [(0, .ref 322), (1, .int place), (2, .int (nI n)), (3, .int (am_oi j117))] [] r (am_row (am_row h 333 (rf_wr (h 333) (rf_wh (h 323) (h 328) place) n)) 334 (rf_m3 (rf_wh (h 323) (h 328) place) (rf_S (h 323)) n (rf_m1 (h 334) n (2 ^ rf_S (h 323))) (n - j117))) := by
                intro j117
                induction j117 with
                | zero =>
                  intro  hjn
                  refine am_iload_n (pc := 117) C dX12_matchesAll_117 rfl ?_
                  refine am_if_ltO (pc := 118) (tgt := 229) C dX12_matchesAll_118 (by decide) (by omega) (fun q118 => ?_) (fun q118 => ?_)
                  · skip
                    exact am_vretv T dX12_matchesAll_229 rfl (Nat.le_refl _) (Nat.le_refl _) rfl (by rw [Nat.sub_zero])
                  · skip
                    exact absurd q118 (by omega)
                | succ j117 ih117 =>
                  intro  hjn
                  refine am_iload_n (pc := 117) C dX12_matchesAll_117 rfl ?_
                  refine am_if_ltO (pc := 118) (tgt := 229) C dX12_matchesAll_118 (by decide) (by omega) (fun q118 => ?_) (fun q118 => ?_)
                  · skip
                    exact absurd q118 (by omega)
                  · skip
                    refine am_lsv (ls' := [(0, .ref 322), (1, .int place), (2, .int (nI n)), (3, .int (nI j117))]) (congrArg (fun z9 : Int32 => ([(0, .ref 322), (1, .int place), (2, .int (nI n)), (3, Value.int z9)] : List (Nat × Value))) (show (am_oi (j117 + 1)) = (nI j117) from (am_oi_s j117))) ?_
                    refine am_iconstN (pc := 121) (k := 0) C dX12_matchesAll_121 ?_
                    refine am_istore (pc := 122) (ls' := [(0, .ref 322), (1, .int place), (2, .int (nI n)), (3, .int (nI j117)), (4, .int (nI 0))]) C dX12_matchesAll_122 (by decide) rfl ?_
                    have L124 : ∀ (j124 i124 : Nat), i124 + j124 = (2 ^ rf_S (h 323)) → am_G X (am_VV ad) (0, 0) 124 [(0, .ref 322), (1, .int place), (2, .int (nI n)), (3, .int (nI j117)), (4, .int (nI i124))] [] r (am_row (am_row h 333 (rf_wr (h 333) (rf_wh (h 323) (h 328) place) n)) 334 (rf_m2 (rf_wh (h 323) (h 328) place) (rf_S (h 323)) j117 (rf_m3 (rf_wh (h 323) (h 328) place) (rf_S (h 323)) n (rf_m1 (h 334) n (2 ^ rf_S (h 323))) (n - (j117 + 1))) i124)) := by
                      intro j124
                      induction j124 with
                      | zero =>
                        intro i124 hi124 
                        obtain rfl : i124 = (2 ^ rf_S (h 323)) := by omega
                        refine am_iload (pc := 124) C dX12_matchesAll_124 rfl ?_
                        refine am_iconstN (pc := 126) (k := 1) C dX12_matchesAll_126 ?_
                        refine am_aload_n (pc := 127) C dX12_matchesAll_127 rfl ?_
                        refine am_callVi (Y := mX12_soldiers) (pc := 128) (st := [.int (nI 1), .int (nI (2 ^ rf_S (h 323)))]) (As := []) (x := (nI (rf_S (h 323)))) (h2 := (am_row (am_row h 333 (rf_wr (h 333) (rf_wh (h 323) (h 328) place) n)) 334 (rf_m2 (rf_wh (h 323) (h 328) place) (rf_S (h 323)) j117 (rf_m3 (rf_wh (h 323) (h 328) place) (rf_S (h 323)) n (rf_m1 (h 334) n (2 ^ rf_S (h 323))) (n - (j117 + 1))) (2 ^ rf_S (h 323))))) C dX12_matchesAll_128 k12_75 v_X12_soldiers rfl rfl bn_322 sh_322 ⟨by decide, rfl⟩ (by decide) (Nat.zero_le _) (Nat.zero_le _) (Nat.le_of_ble_eq_true rfl) (c_X12_soldiers hR (show rf_Cn (h 323) from hV.1)) ?_
                        refine am_ishl (pc := 131) C dX12_matchesAll_131 ?_
                        refine am_top (show ((nI 1) <<< ((nI (rf_S (h 323))) &&& 31)) = (nI (2 ^ rf_S (h 323))) from (am_shl1 (by omega))) ?_
                        refine am_icmp_geN (pc := 132) (tgt := 223) C dX12_matchesAll_132 (by decide) (by omega) (by omega) (fun q132 => ?_) (fun q132 => ?_)
                        · skip
                          refine am_iinc (pc := 223) (ls' := [(0, .ref 322), (1, .int place), (2, .int (nI n)), (3, .int ((nI j117) - nI 1)), (4, .int (nI (2 ^ rf_S (h 323))))]) C dX12_matchesAll_223 rfl (am_dnI _) (by decide) rfl ?_
                          refine am_goto (pc := 226) (tgt := 117) C dX12_matchesAll_226 (by decide) ?_
                          refine am_sub (ls' := [(0, .ref 322), (1, .int place), (2, .int (nI n)), (3, .int ((nI j117) - nI 1))]) (by intro q hq; simp only [List.mem_cons, List.not_mem_nil, or_false] at hq ⊢; rcases hq with rfl | rfl | rfl | rfl <;> simp) ?_
                          refine am_hp (show (am_row (am_row h 333 (rf_wr (h 333) (rf_wh (h 323) (h 328) place) n)) 334 (rf_m2 (rf_wh (h 323) (h 328) place) (rf_S (h 323)) j117 (rf_m3 (rf_wh (h 323) (h 328) place) (rf_S (h 323)) n (rf_m1 (h 334) n (2 ^ rf_S (h 323))) (n - (j117 + 1))) (2 ^ rf_S (h 323)))) = (am_row (am_row h 333 (rf_wr (h 333) (rf_wh (h 323) (h 328) place) n)) 334 (rf_m3 (rf_wh (h 323) (h 328) place) (rf_S (h 323)) n (rf_m1 (h 334) n (2 ^ rf_S (h 323))) (n - j117))) from congrArg (am_row _ 334) (by rw [show n - j117 = n - (j117 + 1) + 1 by omega, rf_m3, show n - (n - (j117 + 1) + 1) = j117 by omega])) ?_
                          refine am_lsv (ls' := [(0, .ref 322), (1, .int place), (2, .int (nI n)), (3, .int (am_oi j117))]) (by rw [show ((nI j117) - nI 1) = (am_oi j117) from rfl]) ?_
                          exact ih117  (by omega)
                        · skip
                          exact absurd q132 (by omega)
                      | succ j124 ih124 =>
                        intro i124 hi124 
                        have hl124 : i124 < (2 ^ rf_S (h 323)) := by omega
                        refine am_iload (pc := 124) C dX12_matchesAll_124 rfl ?_
                        refine am_iconstN (pc := 126) (k := 1) C dX12_matchesAll_126 ?_
                        refine am_aload_n (pc := 127) C dX12_matchesAll_127 rfl ?_
                        refine am_callVi (Y := mX12_soldiers) (pc := 128) (st := [.int (nI 1), .int (nI i124)]) (As := []) (x := (nI (rf_S (h 323)))) (h2 := (am_row (am_row h 333 (rf_wr (h 333) (rf_wh (h 323) (h 328) place) n)) 334 (rf_m2 (rf_wh (h 323) (h 328) place) (rf_S (h 323)) j117 (rf_m3 (rf_wh (h 323) (h 328) place) (rf_S (h 323)) n (rf_m1 (h 334) n (2 ^ rf_S (h 323))) (n - (j117 + 1))) i124))) C dX12_matchesAll_128 k12_75 v_X12_soldiers rfl rfl bn_322 sh_322 ⟨by decide, rfl⟩ (by decide) (Nat.zero_le _) (Nat.zero_le _) (Nat.le_of_ble_eq_true rfl) (c_X12_soldiers hR (show rf_Cn (h 323) from hV.1)) ?_
                        refine am_ishl (pc := 131) C dX12_matchesAll_131 ?_
                        refine am_top (show ((nI 1) <<< ((nI (rf_S (h 323))) &&& 31)) = (nI (2 ^ rf_S (h 323))) from (am_shl1 (by omega))) ?_
                        refine am_icmp_geN (pc := 132) (tgt := 223) C dX12_matchesAll_132 (by decide) (by omega) (by omega) (fun q132 => ?_) (fun q132 => ?_)
                        · skip
                          exact absurd q132 (by omega)
                        · skip
                          refine am_iconstN (pc := 135) (k := 0) C dX12_matchesAll_135 ?_
                          refine am_istore (pc := 136) (ls' := [(0, .ref 322), (1, .int place), (2, .int (nI n)), (3, .int (nI j117)), (4, .int (nI i124)), (5, .int (nI 0))]) C dX12_matchesAll_136 (by decide) rfl ?_
                          refine am_iconstN (pc := 138) (k := 0) C dX12_matchesAll_138 ?_
                          refine am_istore (pc := 139) (ls' := [(0, .ref 322), (1, .int place), (2, .int (nI n)), (3, .int (nI j117)), (4, .int (nI i124)), (5, .int (nI 0)), (6, .int (nI 0))]) C dX12_matchesAll_139 (by decide) rfl ?_
                          have L141 : ∀ (j141 i141 : Nat), i141 + j141 = (rf_S (h 323)) → am_G X (am_VV ad) (0, 0) 141 [(0, .ref 322), (1, .int place), (2, .int (nI n)), (3, .int (nI j117)), (4, .int (nI i124)), (5, .int (rf_wsum (fun s => (rf_m2 (rf_wh (h 323) (h 328) place) (rf_S (h 323)) j117 (rf_m3 (rf_wh (h 323) (h 328) place) (rf_S (h 323)) n (rf_m1 (h 334) n (2 ^ rf_S (h 323))) (n - (j117 + 1))) i124) ((j117 + 1) * 1024 + rf_ws i124 s)) (rf_wh (h 323) (h 328) place j117 &&& (nI i124 ^^^ (-1))) i141)), (6, .int (nI i141))] [] r (am_row (am_row h 333 (rf_wr (h 333) (rf_wh (h 323) (h 328) place) n)) 334 (rf_m2 (rf_wh (h 323) (h 328) place) (rf_S (h 323)) j117 (rf_m3 (rf_wh (h 323) (h 328) place) (rf_S (h 323)) n (rf_m1 (h 334) n (2 ^ rf_S (h 323))) (n - (j117 + 1))) i124)) := by
                            intro j141
                            induction j141 with
                            | zero =>
                              intro i141 hi141 
                              obtain rfl : i141 = (rf_S (h 323)) := by omega
                              refine am_iload (pc := 141) C dX12_matchesAll_141 rfl ?_
                              refine am_aload_n (pc := 143) C dX12_matchesAll_143 rfl ?_
                              refine am_callVi (Y := mX12_soldiers) (pc := 144) (st := [.int (nI (rf_S (h 323)))]) (As := []) (x := (nI (rf_S (h 323)))) (h2 := (am_row (am_row h 333 (rf_wr (h 333) (rf_wh (h 323) (h 328) place) n)) 334 (rf_m2 (rf_wh (h 323) (h 328) place) (rf_S (h 323)) j117 (rf_m3 (rf_wh (h 323) (h 328) place) (rf_S (h 323)) n (rf_m1 (h 334) n (2 ^ rf_S (h 323))) (n - (j117 + 1))) i124))) C dX12_matchesAll_144 k12_75 v_X12_soldiers rfl rfl bn_322 sh_322 ⟨by decide, rfl⟩ (by decide) (Nat.zero_le _) (Nat.zero_le _) (Nat.le_of_ble_eq_true rfl) (c_X12_soldiers hR (show rf_Cn (h 323) from hV.1)) ?_
                              refine am_icmp_geN (pc := 147) (tgt := 203) C dX12_matchesAll_147 (by decide) (by omega) (by omega) (fun q147 => ?_) (fun q147 => ?_)
                              · skip
                                refine am_aload_n (pc := 203) C dX12_matchesAll_203 rfl ?_
                                refine am_getR (pc := 204) (j := 334) C dX12_matchesAll_204 f12_53 bn_322 sh_322 (rf_322_21 hR) ?_
                                refine am_iload_n (pc := 207) C dX12_matchesAll_207 rfl ?_
                                refine am_bipush (pc := 208) (v := nI 10) C dX12_matchesAll_208 (by decide) ?_
                                refine am_ishl (pc := 210) C dX12_matchesAll_210 ?_
                                refine am_iload (pc := 211) C dX12_matchesAll_211 rfl ?_
                                refine am_ior (pc := 213) C dX12_matchesAll_213 ?_
                                refine am_top (show (((nI j117) <<< ((nI 10) &&& 31)) ||| (nI i124)) = (nI (j117 * 1024 + i124)) from (rf_ix (by omega))) ?_
                                refine am_iload (pc := 214) C dX12_matchesAll_214 rfl ?_
                                refine am_iastore (pc := 216) C dX12_matchesAll_216 bn_334 sh_334 (vp_in_nI (by omega) (by decide)) ?_
                                refine am_hp (show am_up (am_row (am_row h 333 (rf_wr (h 333) (rf_wh (h 323) (h 328) place) n)) 334 (rf_m2 (rf_wh (h 323) (h 328) place) (rf_S (h 323)) j117 (rf_m3 (rf_wh (h 323) (h 328) place) (rf_S (h 323)) n (rf_m1 (h 334) n (2 ^ rf_S (h 323))) (n - (j117 + 1))) i124)) 334 (nI (j117 * 1024 + i124)).toNatClampNeg (rf_wsum (fun s => (rf_m2 (rf_wh (h 323) (h 328) place) (rf_S (h 323)) j117 (rf_m3 (rf_wh (h 323) (h 328) place) (rf_S (h 323)) n (rf_m1 (h 334) n (2 ^ rf_S (h 323))) (n - (j117 + 1))) i124) ((j117 + 1) * 1024 + rf_ws i124 s)) (rf_wh (h 323) (h 328) place j117 &&& (nI i124 ^^^ (-1))) (rf_S (h 323))) = am_row (am_row (am_row h 333 (rf_wr (h 333) (rf_wh (h 323) (h 328) place) n)) 334 (rf_m2 (rf_wh (h 323) (h 328) place) (rf_S (h 323)) j117 (rf_m3 (rf_wh (h 323) (h 328) place) (rf_S (h 323)) n (rf_m1 (h 334) n (2 ^ rf_S (h 323))) (n - (j117 + 1))) i124)) 334 (upd (rf_m2 (rf_wh (h 323) (h 328) place) (rf_S (h 323)) j117 (rf_m3 (rf_wh (h 323) (h 328) place) (rf_S (h 323)) n (rf_m1 (h 334) n (2 ^ rf_S (h 323))) (n - (j117 + 1))) i124) (j117 * 1024 + i124) (rf_wsum (fun s => (rf_m2 (rf_wh (h 323) (h 328) place) (rf_S (h 323)) j117 (rf_m3 (rf_wh (h 323) (h 328) place) (rf_S (h 323)) n (rf_m1 (h 334) n (2 ^ rf_S (h 323))) (n - (j117 + 1))) i124) ((j117 + 1) * 1024 + rf_ws i124 s)) (rf_wh (h 323) (h 328) place j117 &&& (nI i124 ^^^ (-1))) (rf_S (h 323)))) from by rw [nI_clamp (by omega)]; exact am_up_rw _ _ _ _) ?_
                                refine am_hp (show am_row (am_row (am_row h 333 (rf_wr (h 333) (rf_wh (h 323) (h 328) place) n)) 334 (rf_m2 (rf_wh (h 323) (h 328) place) (rf_S (h 323)) j117 (rf_m3 (rf_wh (h 323) (h 328) place) (rf_S (h 323)) n (rf_m1 (h 334) n (2 ^ rf_S (h 323))) (n - (j117 + 1))) i124)) 334 (upd (rf_m2 (rf_wh (h 323) (h 328) place) (rf_S (h 323)) j117 (rf_m3 (rf_wh (h 323) (h 328) place) (rf_S (h 323)) n (rf_m1 (h 334) n (2 ^ rf_S (h 323))) (n - (j117 + 1))) i124) (j117 * 1024 + i124) (rf_wsum (fun s => (rf_m2 (rf_wh (h 323) (h 328) place) (rf_S (h 323)) j117 (rf_m3 (rf_wh (h 323) (h 328) place) (rf_S (h 323)) n (rf_m1 (h 334) n (2 ^ rf_S (h 323))) (n - (j117 + 1))) i124) ((j117 + 1) * 1024 + rf_ws i124 s)) (rf_wh (h 323) (h 328) place j117 &&& (nI i124 ^^^ (-1))) (rf_S (h 323)))) = (am_row (am_row h 333 (rf_wr (h 333) (rf_wh (h 323) (h 328) place) n)) 334 (upd (rf_m2 (rf_wh (h 323) (h 328) place) (rf_S (h 323)) j117 (rf_m3 (rf_wh (h 323) (h 328) place) (rf_S (h 323)) n (rf_m1 (h 334) n (2 ^ rf_S (h 323))) (n - (j117 + 1))) i124) (j117 * 1024 + i124) (rf_wsum (fun s => (rf_m2 (rf_wh (h 323) (h 328) place) (rf_S (h 323)) j117 (rf_m3 (rf_wh (h 323) (h 328) place) (rf_S (h 323)) n (rf_m1 (h 334) n (2 ^ rf_S (h 323))) (n - (j117 + 1))) i124) ((j117 + 1) * 1024 + rf_ws i124 s)) (rf_wh (h 323) (h 328) place j117 &&& (nI i124 ^^^ (-1))) (rf_S (h 323))))) from am_row_s0) ?_
                                refine am_iincN (pc := 217) (ls' := [(0, .ref 322), (1, .int place), (2, .int (nI n)), (3, .int (nI j117)), (4, .int (nI (i124 + 1))), (5, .int (rf_wsum (fun s => (rf_m2 (rf_wh (h 323) (h 328) place) (rf_S (h 323)) j117 (rf_m3 (rf_wh (h 323) (h 328) place) (rf_S (h 323)) n (rf_m1 (h 334) n (2 ^ rf_S (h 323))) (n - (j117 + 1))) i124) ((j117 + 1) * 1024 + rf_ws i124 s)) (rf_wh (h 323) (h 328) place j117 &&& (nI i124 ^^^ (-1))) (rf_S (h 323)))), (6, .int (nI (rf_S (h 323))))]) C dX12_matchesAll_217 rfl (am_up1 _) (by decide) rfl ?_
                                refine am_goto (pc := 220) (tgt := 124) C dX12_matchesAll_220 (by decide) ?_
                                refine am_sub (ls' := [(0, .ref 322), (1, .int place), (2, .int (nI n)), (3, .int (nI j117)), (4, .int (nI (i124 + 1)))]) (by intro q hq; simp only [List.mem_cons, List.not_mem_nil, or_false] at hq ⊢; rcases hq with rfl | rfl | rfl | rfl | rfl <;> simp) ?_
                                refine am_hp (show (am_row (am_row h 333 (rf_wr (h 333) (rf_wh (h 323) (h 328) place) n)) 334 (upd (rf_m2 (rf_wh (h 323) (h 328) place) (rf_S (h 323)) j117 (rf_m3 (rf_wh (h 323) (h 328) place) (rf_S (h 323)) n (rf_m1 (h 334) n (2 ^ rf_S (h 323))) (n - (j117 + 1))) i124) (j117 * 1024 + i124) (rf_wsum (fun s => (rf_m2 (rf_wh (h 323) (h 328) place) (rf_S (h 323)) j117 (rf_m3 (rf_wh (h 323) (h 328) place) (rf_S (h 323)) n (rf_m1 (h 334) n (2 ^ rf_S (h 323))) (n - (j117 + 1))) i124) ((j117 + 1) * 1024 + rf_ws i124 s)) (rf_wh (h 323) (h 328) place j117 &&& (nI i124 ^^^ (-1))) (rf_S (h 323))))) = (am_row (am_row h 333 (rf_wr (h 333) (rf_wh (h 323) (h 328) place) n)) 334 (rf_m2 (rf_wh (h 323) (h 328) place) (rf_S (h 323)) j117 (rf_m3 (rf_wh (h 323) (h 328) place) (rf_S (h 323)) n (rf_m1 (h 334) n (2 ^ rf_S (h 323))) (n - (j117 + 1))) (i124 + 1))) from rfl) ?_
                                exact ih124 (i124 + 1) (by omega) 
                              · skip
                                exact absurd q147 (by omega)
                            | succ j141 ih141 =>
                              intro i141 hi141 
                              have hl141 : i141 < (rf_S (h 323)) := by omega
                              have hws : rf_ws i124 i141 < 2 ^ 10 := rf_ws_lt (by decide) (by omega) (by omega)
                              refine am_iload (pc := 141) C dX12_matchesAll_141 rfl ?_
                              refine am_aload_n (pc := 143) C dX12_matchesAll_143 rfl ?_
                              refine am_callVi (Y := mX12_soldiers) (pc := 144) (st := [.int (nI i141)]) (As := []) (x := (nI (rf_S (h 323)))) (h2 := (am_row (am_row h 333 (rf_wr (h 333) (rf_wh (h 323) (h 328) place) n)) 334 (rf_m2 (rf_wh (h 323) (h 328) place) (rf_S (h 323)) j117 (rf_m3 (rf_wh (h 323) (h 328) place) (rf_S (h 323)) n (rf_m1 (h 334) n (2 ^ rf_S (h 323))) (n - (j117 + 1))) i124))) C dX12_matchesAll_144 k12_75 v_X12_soldiers rfl rfl bn_322 sh_322 ⟨by decide, rfl⟩ (by decide) (Nat.zero_le _) (Nat.zero_le _) (Nat.le_of_ble_eq_true rfl) (c_X12_soldiers hR (show rf_Cn (h 323) from hV.1)) ?_
                              refine am_icmp_geN (pc := 147) (tgt := 203) C dX12_matchesAll_147 (by decide) (by omega) (by omega) (fun q147 => ?_) (fun q147 => ?_)
                              · skip
                                exact absurd q147 (by omega)
                              · skip
                                refine am_iload (pc := 150) C dX12_matchesAll_150 rfl ?_
                                refine am_aload_n (pc := 152) C dX12_matchesAll_152 rfl ?_
                                refine am_getR (pc := 153) (j := 333) C dX12_matchesAll_153 f12_50 bn_322 sh_322 (rf_322_20 hR) ?_
                                refine am_iload_n (pc := 156) C dX12_matchesAll_156 rfl ?_
                                refine am_iaload (pc := 157) C dX12_matchesAll_157 bn_333 sh_333 (vp_in_nI (by omega) (by decide)) ?_
                                refine am_top (show (rf_wr (h 333) (rf_wh (h 323) (h 328) place) n) (nI j117).toNatClampNeg = (rf_wr (h 333) (rf_wh (h 323) (h 328) place) n) j117 from by rw [nI_clamp (by omega)]) ?_
                                refine am_top (show ((rf_wr (h 333) (rf_wh (h 323) (h 328) place) n) j117) = (rf_wh (h 323) (h 328) place j117) from (rf_wr_in _ (by omega))) ?_
                                refine am_iload (pc := 158) C dX12_matchesAll_158 rfl ?_
                                refine am_iconst (pc := 160) (v := -1) C dX12_matchesAll_160 rfl ?_
                                refine am_ixor (pc := 161) C dX12_matchesAll_161 ?_
                                refine am_iand (pc := 162) C dX12_matchesAll_162 ?_
                                refine am_iload (pc := 163) C dX12_matchesAll_163 rfl ?_
                                refine am_callSi (Y := mX12_has) (pc := 165) (st := [.int (rf_wsum (fun s => (rf_m2 (rf_wh (h 323) (h 328) place) (rf_S (h 323)) j117 (rf_m3 (rf_wh (h 323) (h 328) place) (rf_S (h 323)) n (rf_m1 (h 334) n (2 ^ rf_S (h 323))) (n - (j117 + 1))) i124) ((j117 + 1) * 1024 + rf_ws i124 s)) (rf_wh (h 323) (h 328) place j117 &&& (nI i124 ^^^ (-1))) i141)]) (As := [.int ((rf_wh (h 323) (h 328) place j117) &&& ((nI i124) ^^^ (-1))), .int (nI i141)]) (x := (am_b (am_bt ((rf_wh (h 323) (h 328) place j117) &&& ((nI i124) ^^^ (-1))) i141))) (h2 := (am_row (am_row h 333 (rf_wr (h 333) (rf_wh (h 323) (h 328) place) n)) 334 (rf_m2 (rf_wh (h 323) (h 328) place) (rf_S (h 323)) j117 (rf_m3 (rf_wh (h 323) (h 328) place) (rf_S (h 323)) n (rf_m1 (h 334) n (2 ^ rf_S (h 323))) (n - (j117 + 1))) i124))) C dX12_matchesAll_165 k12_81 v_X12_has rfl rfl (by decide) (Nat.zero_le _) (Nat.zero_le _) (Nat.le_of_ble_eq_true rfl) (c_X12_has hR ((rf_wh (h 323) (h 328) place j117) &&& ((nI i124) ^^^ (-1))) i141 (show i141 < 32 from by omega)) ?_
                                refine am_if_eqB (pc := 168) (tgt := 193) C dX12_matchesAll_168 (by decide) (fun q168 => ?_) (fun q168 => ?_)
                                · skip
                                  refine am_iconstN (pc := 193) (k := 0) C dX12_matchesAll_193 ?_
                                  refine am_iadd (pc := 194) C dX12_matchesAll_194 ?_
                                  refine am_istore (pc := 195) (ls' := [(0, .ref 322), (1, .int place), (2, .int (nI n)), (3, .int (nI j117)), (4, .int (nI i124)), (5, .int ((rf_wsum (fun s => (rf_m2 (rf_wh (h 323) (h 328) place) (rf_S (h 323)) j117 (rf_m3 (rf_wh (h 323) (h 328) place) (rf_S (h 323)) n (rf_m1 (h 334) n (2 ^ rf_S (h 323))) (n - (j117 + 1))) i124) ((j117 + 1) * 1024 + rf_ws i124 s)) (rf_wh (h 323) (h 328) place j117 &&& (nI i124 ^^^ (-1))) i141) + (nI 0))), (6, .int (nI i141))]) C dX12_matchesAll_195 (by decide) rfl ?_
                                  refine am_iincN (pc := 197) (ls' := [(0, .ref 322), (1, .int place), (2, .int (nI n)), (3, .int (nI j117)), (4, .int (nI i124)), (5, .int ((rf_wsum (fun s => (rf_m2 (rf_wh (h 323) (h 328) place) (rf_S (h 323)) j117 (rf_m3 (rf_wh (h 323) (h 328) place) (rf_S (h 323)) n (rf_m1 (h 334) n (2 ^ rf_S (h 323))) (n - (j117 + 1))) i124) ((j117 + 1) * 1024 + rf_ws i124 s)) (rf_wh (h 323) (h 328) place j117 &&& (nI i124 ^^^ (-1))) i141) + (nI 0))), (6, .int (nI (i141 + 1)))]) C dX12_matchesAll_197 rfl (am_up1 _) (by decide) rfl ?_
                                  refine am_goto (pc := 200) (tgt := 141) C dX12_matchesAll_200 (by decide) ?_
                                  refine am_lsv (ls' := [(0, .ref 322), (1, .int place), (2, .int (nI n)), (3, .int (nI j117)), (4, .int (nI i124)), (5, .int (rf_wsum (fun s => (rf_m2 (rf_wh (h 323) (h 328) place) (rf_S (h 323)) j117 (rf_m3 (rf_wh (h 323) (h 328) place) (rf_S (h 323)) n (rf_m1 (h 334) n (2 ^ rf_S (h 323))) (n - (j117 + 1))) i124) ((j117 + 1) * 1024 + rf_ws i124 s)) (rf_wh (h 323) (h 328) place j117 &&& (nI i124 ^^^ (-1))) (i141 + 1))), (6, .int (nI (i141 + 1)))]) (by rw [show ((rf_wsum (fun s => (rf_m2 (rf_wh (h 323) (h 328) place) (rf_S (h 323)) j117 (rf_m3 (rf_wh (h 323) (h 328) place) (rf_S (h 323)) n (rf_m1 (h 334) n (2 ^ rf_S (h 323))) (n - (j117 + 1))) i124) ((j117 + 1) * 1024 + rf_ws i124 s)) (rf_wh (h 323) (h 328) place j117 &&& (nI i124 ^^^ (-1))) i141) + (nI 0)) = (rf_wsum (fun s => (rf_m2 (rf_wh (h 323) (h 328) place) (rf_S (h 323)) j117 (rf_m3 (rf_wh (h 323) (h 328) place) (rf_S (h 323)) n (rf_m1 (h 334) n (2 ^ rf_S (h 323))) (n - (j117 + 1))) i124) ((j117 + 1) * 1024 + rf_ws i124 s)) (rf_wh (h 323) (h 328) place j117 &&& (nI i124 ^^^ (-1))) (i141 + 1)) from (by rw [rf_wsum, if_neg (by rw [q168]; exact Bool.false_ne_true)])]) ?_
                                  exact ih141 (i141 + 1) (by omega) 
                                · skip
                                  refine am_aload_n (pc := 171) C dX12_matchesAll_171 rfl ?_
                                  refine am_getR (pc := 172) (j := 334) C dX12_matchesAll_172 f12_53 bn_322 sh_322 (rf_322_21 hR) ?_
                                  refine am_iload_n (pc := 175) C dX12_matchesAll_175 rfl ?_
                                  refine am_iconstN (pc := 176) (k := 1) C dX12_matchesAll_176 ?_
                                  refine am_iaddN (pc := 177) C dX12_matchesAll_177 ?_
                                  refine am_bipush (pc := 178) (v := nI 10) C dX12_matchesAll_178 (by decide) ?_
                                  refine am_ishl (pc := 180) C dX12_matchesAll_180 ?_
                                  refine am_iload (pc := 181) C dX12_matchesAll_181 rfl ?_
                                  refine am_ior (pc := 183) C dX12_matchesAll_183 ?_
                                  refine am_iconstN (pc := 184) (k := 1) C dX12_matchesAll_184 ?_
                                  refine am_iload (pc := 185) C dX12_matchesAll_185 rfl ?_
                                  refine am_ishl (pc := 187) C dX12_matchesAll_187 ?_
                                  refine am_ior (pc := 188) C dX12_matchesAll_188 ?_
                                  refine am_top (show ((((nI (j117 + 1)) <<< ((nI 10) &&& 31)) ||| (nI i124)) ||| ((nI 1) <<< ((nI i141) &&& 31))) = (nI ((j117 + 1) * 1024 + rf_ws i124 i141)) from (rf_ix2 (by omega) (by omega))) ?_
                                  refine am_iaload (pc := 189) C dX12_matchesAll_189 bn_334 sh_334 (vp_in_nI (by omega) (by decide)) ?_
                                  refine am_top (show (rf_m2 (rf_wh (h 323) (h 328) place) (rf_S (h 323)) j117 (rf_m3 (rf_wh (h 323) (h 328) place) (rf_S (h 323)) n (rf_m1 (h 334) n (2 ^ rf_S (h 323))) (n - (j117 + 1))) i124) (nI ((j117 + 1) * 1024 + rf_ws i124 i141)).toNatClampNeg = (rf_m2 (rf_wh (h 323) (h 328) place) (rf_S (h 323)) j117 (rf_m3 (rf_wh (h 323) (h 328) place) (rf_S (h 323)) n (rf_m1 (h 334) n (2 ^ rf_S (h 323))) (n - (j117 + 1))) i124) ((j117 + 1) * 1024 + rf_ws i124 i141) from by rw [nI_clamp (by omega)]) ?_
                                  refine am_goto (pc := 190) (tgt := 194) C dX12_matchesAll_190 (by decide) ?_
                                  refine am_iadd (pc := 194) C dX12_matchesAll_194 ?_
                                  refine am_istore (pc := 195) (ls' := [(0, .ref 322), (1, .int place), (2, .int (nI n)), (3, .int (nI j117)), (4, .int (nI i124)), (5, .int ((rf_wsum (fun s => (rf_m2 (rf_wh (h 323) (h 328) place) (rf_S (h 323)) j117 (rf_m3 (rf_wh (h 323) (h 328) place) (rf_S (h 323)) n (rf_m1 (h 334) n (2 ^ rf_S (h 323))) (n - (j117 + 1))) i124) ((j117 + 1) * 1024 + rf_ws i124 s)) (rf_wh (h 323) (h 328) place j117 &&& (nI i124 ^^^ (-1))) i141) + ((rf_m2 (rf_wh (h 323) (h 328) place) (rf_S (h 323)) j117 (rf_m3 (rf_wh (h 323) (h 328) place) (rf_S (h 323)) n (rf_m1 (h 334) n (2 ^ rf_S (h 323))) (n - (j117 + 1))) i124) ((j117 + 1) * 1024 + rf_ws i124 i141)))), (6, .int (nI i141))]) C dX12_matchesAll_195 (by decide) rfl ?_
                                  refine am_iincN (pc := 197) (ls' := [(0, .ref 322), (1, .int place), (2, .int (nI n)), (3, .int (nI j117)), (4, .int (nI i124)), (5, .int ((rf_wsum (fun s => (rf_m2 (rf_wh (h 323) (h 328) place) (rf_S (h 323)) j117 (rf_m3 (rf_wh (h 323) (h 328) place) (rf_S (h 323)) n (rf_m1 (h 334) n (2 ^ rf_S (h 323))) (n - (j117 + 1))) i124) ((j117 + 1) * 1024 + rf_ws i124 s)) (rf_wh (h 323) (h 328) place j117 &&& (nI i124 ^^^ (-1))) i141) + ((rf_m2 (rf_wh (h 323) (h 328) place) (rf_S (h 323)) j117 (rf_m3 (rf_wh (h 323) (h 328) place) (rf_S (h 323)) n (rf_m1 (h 334) n (2 ^ rf_S (h 323))) (n - (j117 + 1))) i124) ((j117 + 1) * 1024 + rf_ws i124 i141)))), (6, .int (nI (i141 + 1)))]) C dX12_matchesAll_197 rfl (am_up1 _) (by decide) rfl ?_
                                  refine am_goto (pc := 200) (tgt := 141) C dX12_matchesAll_200 (by decide) ?_
                                  refine am_lsv (ls' := [(0, .ref 322), (1, .int place), (2, .int (nI n)), (3, .int (nI j117)), (4, .int (nI i124)), (5, .int (rf_wsum (fun s => (rf_m2 (rf_wh (h 323) (h 328) place) (rf_S (h 323)) j117 (rf_m3 (rf_wh (h 323) (h 328) place) (rf_S (h 323)) n (rf_m1 (h 334) n (2 ^ rf_S (h 323))) (n - (j117 + 1))) i124) ((j117 + 1) * 1024 + rf_ws i124 s)) (rf_wh (h 323) (h 328) place j117 &&& (nI i124 ^^^ (-1))) (i141 + 1))), (6, .int (nI (i141 + 1)))]) (by rw [show ((rf_wsum (fun s => (rf_m2 (rf_wh (h 323) (h 328) place) (rf_S (h 323)) j117 (rf_m3 (rf_wh (h 323) (h 328) place) (rf_S (h 323)) n (rf_m1 (h 334) n (2 ^ rf_S (h 323))) (n - (j117 + 1))) i124) ((j117 + 1) * 1024 + rf_ws i124 s)) (rf_wh (h 323) (h 328) place j117 &&& (nI i124 ^^^ (-1))) i141) + ((rf_m2 (rf_wh (h 323) (h 328) place) (rf_S (h 323)) j117 (rf_m3 (rf_wh (h 323) (h 328) place) (rf_S (h 323)) n (rf_m1 (h 334) n (2 ^ rf_S (h 323))) (n - (j117 + 1))) i124) ((j117 + 1) * 1024 + rf_ws i124 i141))) = (rf_wsum (fun s => (rf_m2 (rf_wh (h 323) (h 328) place) (rf_S (h 323)) j117 (rf_m3 (rf_wh (h 323) (h 328) place) (rf_S (h 323)) n (rf_m1 (h 334) n (2 ^ rf_S (h 323))) (n - (j117 + 1))) i124) ((j117 + 1) * 1024 + rf_ws i124 s)) (rf_wh (h 323) (h 328) place j117 &&& (nI i124 ^^^ (-1))) (i141 + 1)) from (by rw [rf_wsum, if_pos q168])]) ?_
                                  exact ih141 (i141 + 1) (by omega) 
                          exact L141 (rf_S (h 323)) 0 (by omega) 
                    refine am_sub (ls' := [(0, .ref 322), (1, .int place), (2, .int (nI n)), (3, .int (nI j117)), (4, .int (nI 0))]) (by intro q hq; simp only [List.mem_cons, List.not_mem_nil, or_false] at hq ⊢; rcases hq with rfl | rfl | rfl | rfl | rfl <;> simp) ?_
                    refine am_hp (show (am_row (am_row h 333 (rf_wr (h 333) (rf_wh (h 323) (h 328) place) n)) 334 (rf_m3 (rf_wh (h 323) (h 328) place) (rf_S (h 323)) n (rf_m1 (h 334) n (2 ^ rf_S (h 323))) (n - (j117 + 1)))) = (am_row (am_row h 333 (rf_wr (h 333) (rf_wh (h 323) (h 328) place) n)) 334 (rf_m2 (rf_wh (h 323) (h 328) place) (rf_S (h 323)) j117 (rf_m3 (rf_wh (h 323) (h 328) place) (rf_S (h 323)) n (rf_m1 (h 334) n (2 ^ rf_S (h 323))) (n - (j117 + 1))) 0)) from rfl) ?_
                    exact L124 (2 ^ rf_S (h 323)) 0 (by omega) 
              refine am_hp (show (am_row (am_row h 333 (rf_wr (h 333) (rf_wh (h 323) (h 328) place) n)) 334 (rf_m1 (h 334) n (2 ^ rf_S (h 323)))) = (am_row (am_row h 333 (rf_wr (h 333) (rf_wh (h 323) (h 328) place) n)) 334 (rf_m3 (rf_wh (h 323) (h 328) place) (rf_S (h 323)) n (rf_m1 (h 334) n (2 ^ rf_S (h 323))) (n - n))) from (by rw [Nat.sub_self]; rfl)) ?_
              refine am_lsv (ls' := [(0, .ref 322), (1, .int place), (2, .int (nI n)), (3, .int (am_oi n))]) (by rw [show ((nI n) - (nI 1)) = (am_oi n) from rfl]) ?_
              exact L117 n  (Nat.le_refl _)
            · skip
              exact absurd q92 (by omega)
          | succ j85 ih85 =>
            intro i85 hi85 
            have hl85 : i85 < (2 ^ rf_S (h 323)) := by omega
            refine am_iload_n (pc := 85) C dX12_matchesAll_85 rfl ?_
            refine am_iconstN (pc := 86) (k := 1) C dX12_matchesAll_86 ?_
            refine am_aload_n (pc := 87) C dX12_matchesAll_87 rfl ?_
            refine am_callVi (Y := mX12_soldiers) (pc := 88) (st := [.int (nI 1), .int (nI i85)]) (As := []) (x := (nI (rf_S (h 323)))) (h2 := (am_row (am_row h 333 (rf_wr (h 333) (rf_wh (h 323) (h 328) place) n)) 334 (rf_m1 (h 334) n i85))) C dX12_matchesAll_88 k12_75 v_X12_soldiers rfl rfl bn_322 sh_322 ⟨by decide, rfl⟩ (by decide) (Nat.zero_le _) (Nat.zero_le _) (Nat.le_of_ble_eq_true rfl) (c_X12_soldiers hR (show rf_Cn (h 323) from hV.1)) ?_
            refine am_ishl (pc := 91) C dX12_matchesAll_91 ?_
            refine am_top (show ((nI 1) <<< ((nI (rf_S (h 323))) &&& 31)) = (nI (2 ^ rf_S (h 323))) from (am_shl1 (by omega))) ?_
            refine am_icmp_geN (pc := 92) (tgt := 113) C dX12_matchesAll_92 (by decide) (by omega) (by omega) (fun q92 => ?_) (fun q92 => ?_)
            · skip
              exact absurd q92 (by omega)
            · skip
              refine am_aload_n (pc := 95) C dX12_matchesAll_95 rfl ?_
              refine am_getR (pc := 96) (j := 334) C dX12_matchesAll_96 f12_53 bn_322 sh_322 (rf_322_21 hR) ?_
              refine am_iload_n (pc := 99) C dX12_matchesAll_99 rfl ?_
              refine am_bipush (pc := 100) (v := nI 10) C dX12_matchesAll_100 (by decide) ?_
              refine am_ishl (pc := 102) C dX12_matchesAll_102 ?_
              refine am_iload_n (pc := 103) C dX12_matchesAll_103 rfl ?_
              refine am_ior (pc := 104) C dX12_matchesAll_104 ?_
              refine am_top (show (((nI n) <<< ((nI 10) &&& 31)) ||| (nI i85)) = (nI (n * 1024 + i85)) from (rf_ix (by omega))) ?_
              refine am_iconstN (pc := 105) (k := 1) C dX12_matchesAll_105 ?_
              refine am_iastore (pc := 106) C dX12_matchesAll_106 bn_334 sh_334 (vp_in_nI (by omega) (by decide)) ?_
              refine am_hp (show am_up (am_row (am_row h 333 (rf_wr (h 333) (rf_wh (h 323) (h 328) place) n)) 334 (rf_m1 (h 334) n i85)) 334 (nI (n * 1024 + i85)).toNatClampNeg (nI 1) = am_row (am_row (am_row h 333 (rf_wr (h 333) (rf_wh (h 323) (h 328) place) n)) 334 (rf_m1 (h 334) n i85)) 334 (upd (rf_m1 (h 334) n i85) (n * 1024 + i85) (nI 1)) from by rw [nI_clamp (by omega)]; exact am_up_rw _ _ _ _) ?_
              refine am_hp (show am_row (am_row (am_row h 333 (rf_wr (h 333) (rf_wh (h 323) (h 328) place) n)) 334 (rf_m1 (h 334) n i85)) 334 (upd (rf_m1 (h 334) n i85) (n * 1024 + i85) (nI 1)) = (am_row (am_row h 333 (rf_wr (h 333) (rf_wh (h 323) (h 328) place) n)) 334 (upd (rf_m1 (h 334) n i85) (n * 1024 + i85) (nI 1))) from am_row_s0) ?_
              refine am_iincN (pc := 107) (ls' := [(0, .ref 322), (1, .int place), (2, .int (nI n)), (3, .int (nI (i85 + 1)))]) C dX12_matchesAll_107 rfl (am_up1 _) (by decide) rfl ?_
              refine am_goto (pc := 110) (tgt := 85) C dX12_matchesAll_110 (by decide) ?_
              refine am_hp (show (am_row (am_row h 333 (rf_wr (h 333) (rf_wh (h 323) (h 328) place) n)) 334 (upd (rf_m1 (h 334) n i85) (n * 1024 + i85) (nI 1))) = (am_row (am_row h 333 (rf_wr (h 333) (rf_wh (h 323) (h 328) place) n)) 334 (rf_m1 (h 334) n (i85 + 1))) from rfl) ?_
              exact ih85 (i85 + 1) (by omega) 
        refine am_hp (show (am_row h 333 (rf_wr (h 333) (rf_wh (h 323) (h 328) place) n)) = (am_row (am_row h 333 (rf_wr (h 333) (rf_wh (h 323) (h 328) place) n)) 334 (rf_m1 (h 334) n 0)) from (am_hA (by decide)).symm) ?_
        exact L85 (2 ^ rf_S (h 323)) 0 (by omega) 
      · skip
        exact absurd q4 (by omega)
    | succ j2 ih2 =>
      intro i2 hi2 
      have hl2 : i2 < n := by omega
      have ht9 := (htp i2 hl2).2
      refine am_iload_n (pc := 2) C dX12_matchesAll_2 rfl ?_
      refine am_iload_n (pc := 3) C dX12_matchesAll_3 rfl ?_
      refine am_icmp_geN (pc := 4) (tgt := 83) C dX12_matchesAll_4 (by decide) (by omega) (by omega) (fun q4 => ?_) (fun q4 => ?_)
      · skip
        exact absurd q4 (by omega)
      · skip
        refine am_aload_n (pc := 7) C dX12_matchesAll_7 rfl ?_
        refine am_getR (pc := 8) (j := 333) C dX12_matchesAll_8 f12_50 bn_322 sh_322 (rf_322_20 hR) ?_
        refine am_iload_n (pc := 11) C dX12_matchesAll_11 rfl ?_
        refine am_iconstN (pc := 12) (k := 0) C dX12_matchesAll_12 ?_
        refine am_iastore (pc := 13) C dX12_matchesAll_13 bn_333 sh_333 (vp_in_nI (by omega) (by decide)) ?_
        refine am_hp (show am_up (am_row h 333 (rf_wr (h 333) (rf_wh (h 323) (h 328) place) i2)) 333 (nI i2).toNatClampNeg (nI 0) = am_row (am_row h 333 (rf_wr (h 333) (rf_wh (h 323) (h 328) place) i2)) 333 (upd (rf_wr (h 333) (rf_wh (h 323) (h 328) place) i2) i2 (nI 0)) from by rw [nI_clamp (by omega)]; exact am_up_rw _ _ _ _) ?_
        refine am_hp (show am_row (am_row h 333 (rf_wr (h 333) (rf_wh (h 323) (h 328) place) i2)) 333 (upd (rf_wr (h 333) (rf_wh (h 323) (h 328) place) i2) i2 (nI 0)) = (am_row h 333 (upd (rf_wr (h 333) (rf_wh (h 323) (h 328) place) i2) i2 (nI 0))) from am_row_s0) ?_
        refine am_iconstN (pc := 14) (k := 0) C dX12_matchesAll_14 ?_
        refine am_istore (pc := 15) (ls' := [(0, .ref 322), (1, .int place), (2, .int (nI n)), (3, .int (nI i2)), (4, .int (nI 0))]) C dX12_matchesAll_15 (by decide) rfl ?_
        have L17 : ∀ (j17 i17 : Nat), i17 + j17 = (rf_S (h 323)) → am_G X (am_VV ad) (0, 0) 17 [(0, .ref 322), (1, .int place), (2, .int (nI n)), (3, .int (nI i2)), (4, .int (nI i17))] [] r (am_row h 333 (upd (rf_wr (h 333) (rf_wh (h 323) (h 328) place) i2) i2 (rf_set (fun s => !am_bt (rf_known (h 323) s) (rf_nat ((h 328) i2)) && rf_was (h 323) s place) i17))) := by
          intro j17
          induction j17 with
          | zero =>
            intro i17 hi17 
            obtain rfl : i17 = (rf_S (h 323)) := by omega
            refine am_iload (pc := 17) C dX12_matchesAll_17 rfl ?_
            refine am_aload_n (pc := 19) C dX12_matchesAll_19 rfl ?_
            refine am_callVi (Y := mX12_soldiers) (pc := 20) (st := [.int (nI (rf_S (h 323)))]) (As := []) (x := (nI (rf_S (h 323)))) (h2 := (am_row h 333 (upd (rf_wr (h 333) (rf_wh (h 323) (h 328) place) i2) i2 (rf_set (fun s => !am_bt (rf_known (h 323) s) (rf_nat ((h 328) i2)) && rf_was (h 323) s place) (rf_S (h 323)))))) C dX12_matchesAll_20 k12_75 v_X12_soldiers rfl rfl bn_322 sh_322 ⟨by decide, rfl⟩ (by decide) (Nat.zero_le _) (Nat.zero_le _) (Nat.le_of_ble_eq_true rfl) (c_X12_soldiers hR (show rf_Cn (h 323) from hV.1)) ?_
            refine am_icmp_geN (pc := 23) (tgt := 77) C dX12_matchesAll_23 (by decide) (by omega) (by omega) (fun q23 => ?_) (fun q23 => ?_)
            · skip
              refine am_iincN (pc := 77) (ls' := [(0, .ref 322), (1, .int place), (2, .int (nI n)), (3, .int (nI (i2 + 1))), (4, .int (nI (rf_S (h 323))))]) C dX12_matchesAll_77 rfl (am_up1 _) (by decide) rfl ?_
              refine am_goto (pc := 80) (tgt := 2) C dX12_matchesAll_80 (by decide) ?_
              refine am_sub (ls' := [(0, .ref 322), (1, .int place), (2, .int (nI n)), (3, .int (nI (i2 + 1)))]) (by intro q hq; simp only [List.mem_cons, List.not_mem_nil, or_false] at hq ⊢; rcases hq with rfl | rfl | rfl | rfl <;> simp) ?_
              refine am_hp (show (am_row h 333 (upd (rf_wr (h 333) (rf_wh (h 323) (h 328) place) i2) i2 (rf_set (fun s => !am_bt (rf_known (h 323) s) (rf_nat ((h 328) i2)) && rf_was (h 323) s place) (rf_S (h 323))))) = (am_row h 333 (rf_wr (h 333) (rf_wh (h 323) (h 328) place) (i2 + 1))) from rfl) ?_
              exact ih2 (i2 + 1) (by omega) 
            · skip
              exact absurd q23 (by omega)
          | succ j17 ih17 =>
            intro i17 hi17 
            have hl17 : i17 < (rf_S (h 323)) := by omega
            refine am_iload (pc := 17) C dX12_matchesAll_17 rfl ?_
            refine am_aload_n (pc := 19) C dX12_matchesAll_19 rfl ?_
            refine am_callVi (Y := mX12_soldiers) (pc := 20) (st := [.int (nI i17)]) (As := []) (x := (nI (rf_S (h 323)))) (h2 := (am_row h 333 (upd (rf_wr (h 333) (rf_wh (h 323) (h 328) place) i2) i2 (rf_set (fun s => !am_bt (rf_known (h 323) s) (rf_nat ((h 328) i2)) && rf_was (h 323) s place) i17)))) C dX12_matchesAll_20 k12_75 v_X12_soldiers rfl rfl bn_322 sh_322 ⟨by decide, rfl⟩ (by decide) (Nat.zero_le _) (Nat.zero_le _) (Nat.le_of_ble_eq_true rfl) (c_X12_soldiers hR (show rf_Cn (h 323) from hV.1)) ?_
            refine am_icmp_geN (pc := 23) (tgt := 77) C dX12_matchesAll_23 (by decide) (by omega) (by omega) (fun q23 => ?_) (fun q23 => ?_)
            · skip
              exact absurd q23 (by omega)
            · skip
              refine am_aload_n (pc := 26) C dX12_matchesAll_26 rfl ?_
              refine am_getR (pc := 27) (j := 333) C dX12_matchesAll_27 f12_50 bn_322 sh_322 (rf_322_20 hR) ?_
              refine am_iload_n (pc := 30) C dX12_matchesAll_30 rfl ?_
              refine am_dup2 (pc := 31) C dX12_matchesAll_31 rfl rfl ?_
              refine am_iaload (pc := 32) C dX12_matchesAll_32 bn_333 sh_333 (vp_in_nI (by omega) (by decide)) ?_
              refine am_top (show (upd (rf_wr (h 333) (rf_wh (h 323) (h 328) place) i2) i2 (rf_set (fun s => !am_bt (rf_known (h 323) s) (rf_nat ((h 328) i2)) && rf_was (h 323) s place) i17)) (nI i2).toNatClampNeg = (upd (rf_wr (h 333) (rf_wh (h 323) (h 328) place) i2) i2 (rf_set (fun s => !am_bt (rf_known (h 323) s) (rf_nat ((h 328) i2)) && rf_was (h 323) s place) i17)) i2 from by rw [nI_clamp (by omega)]) ?_
              refine am_top (show ((upd (rf_wr (h 333) (rf_wh (h 323) (h 328) place) i2) i2 (rf_set (fun s => !am_bt (rf_known (h 323) s) (rf_nat ((h 328) i2)) && rf_was (h 323) s place) i17)) i2) = (rf_set (fun s => !am_bt (rf_known (h 323) s) (rf_nat ((h 328) i2)) && rf_was (h 323) s place) i17) from rf_upd_eq) ?_
              refine am_aload_n (pc := 33) C dX12_matchesAll_33 rfl ?_
              refine am_iload (pc := 34) C dX12_matchesAll_34 rfl ?_
              refine am_callVi (Y := mX12_knownOf) (pc := 36) (st := [.int (rf_set (fun s => !am_bt (rf_known (h 323) s) (rf_nat ((h 328) i2)) && rf_was (h 323) s place) i17), .int (nI i2), .ref 333]) (As := [.int (nI i17)]) (x := (rf_known (h 323) i17)) (h2 := (am_row h 333 (upd (rf_wr (h 333) (rf_wh (h 323) (h 328) place) i2) i2 (rf_set (fun s => !am_bt (rf_known (h 323) s) (rf_nat ((h 328) i2)) && rf_was (h 323) s place) i17)))) C dX12_matchesAll_36 k12_88 v_X12_knownOf rfl rfl bn_322 sh_322 ⟨by decide, rfl⟩ (by decide) (Nat.zero_le _) (Nat.zero_le _) (Nat.le_of_ble_eq_true rfl) (c_X12_knownOf hR i17 (show i17 < rf_S (h 323) from by omega) (show rf_Is (h 323) i17 from (hV.2.1 i17 (by omega))) (show rf_Cn (h 323) from hV.1)) ?_
              refine am_aload_n (pc := 39) C dX12_matchesAll_39 rfl ?_
              refine am_getR (pc := 40) (j := 328) C dX12_matchesAll_40 f12_29 bn_322 sh_322 (rf_322_8 hR) ?_
              refine am_iload_n (pc := 43) C dX12_matchesAll_43 rfl ?_
              refine am_baload (pc := 44) C dX12_matchesAll_44 bn_328 sh_328 (vp_in_nI (by omega) (by decide)) ?_
              refine am_top (show (h 328) (nI i2).toNatClampNeg = (h 328) i2 from by rw [nI_clamp (by omega)]) ?_
              refine am_top (show ((h 328) i2) = (nI (rf_nat ((h 328) i2))) from (htp i2 (by omega)).1) ?_
              refine am_callSi (Y := mX12_has) (pc := 45) (st := [.int (rf_set (fun s => !am_bt (rf_known (h 323) s) (rf_nat ((h 328) i2)) && rf_was (h 323) s place) i17), .int (nI i2), .ref 333]) (As := [.int (rf_known (h 323) i17), .int (nI (rf_nat ((h 328) i2)))]) (x := (am_b (am_bt (rf_known (h 323) i17) (rf_nat ((h 328) i2))))) (h2 := (am_row h 333 (upd (rf_wr (h 333) (rf_wh (h 323) (h 328) place) i2) i2 (rf_set (fun s => !am_bt (rf_known (h 323) s) (rf_nat ((h 328) i2)) && rf_was (h 323) s place) i17)))) C dX12_matchesAll_45 k12_81 v_X12_has rfl rfl (by decide) (Nat.zero_le _) (Nat.zero_le _) (Nat.le_of_ble_eq_true rfl) (c_X12_has hR (rf_known (h 323) i17) (rf_nat ((h 328) i2)) (show (rf_nat ((h 328) i2)) < 32 from by omega)) ?_
              refine am_if_neB (pc := 48) (tgt := 68) C dX12_matchesAll_48 (by decide) (fun q48 => ?_) (fun q48 => ?_)
              · skip
                refine am_iconstN (pc := 68) (k := 0) C dX12_matchesAll_68 ?_
                refine am_ior (pc := 69) C dX12_matchesAll_69 ?_
                refine am_iastore (pc := 70) C dX12_matchesAll_70 bn_333 sh_333 (vp_in_nI (by omega) (by decide)) ?_
                refine am_hp (show am_up (am_row h 333 (upd (rf_wr (h 333) (rf_wh (h 323) (h 328) place) i2) i2 (rf_set (fun s => !am_bt (rf_known (h 323) s) (rf_nat ((h 328) i2)) && rf_was (h 323) s place) i17))) 333 (nI i2).toNatClampNeg ((rf_set (fun s => !am_bt (rf_known (h 323) s) (rf_nat ((h 328) i2)) && rf_was (h 323) s place) i17) ||| (nI 0)) = am_row (am_row h 333 (upd (rf_wr (h 333) (rf_wh (h 323) (h 328) place) i2) i2 (rf_set (fun s => !am_bt (rf_known (h 323) s) (rf_nat ((h 328) i2)) && rf_was (h 323) s place) i17))) 333 (upd (upd (rf_wr (h 333) (rf_wh (h 323) (h 328) place) i2) i2 (rf_set (fun s => !am_bt (rf_known (h 323) s) (rf_nat ((h 328) i2)) && rf_was (h 323) s place) i17)) i2 ((rf_set (fun s => !am_bt (rf_known (h 323) s) (rf_nat ((h 328) i2)) && rf_was (h 323) s place) i17) ||| (nI 0))) from by rw [nI_clamp (by omega)]; exact am_up_rw _ _ _ _) ?_
                refine am_hp (show am_row (am_row h 333 (upd (rf_wr (h 333) (rf_wh (h 323) (h 328) place) i2) i2 (rf_set (fun s => !am_bt (rf_known (h 323) s) (rf_nat ((h 328) i2)) && rf_was (h 323) s place) i17))) 333 (upd (upd (rf_wr (h 333) (rf_wh (h 323) (h 328) place) i2) i2 (rf_set (fun s => !am_bt (rf_known (h 323) s) (rf_nat ((h 328) i2)) && rf_was (h 323) s place) i17)) i2 ((rf_set (fun s => !am_bt (rf_known (h 323) s) (rf_nat ((h 328) i2)) && rf_was (h 323) s place) i17) ||| (nI 0))) = (am_row h 333 (upd (upd (rf_wr (h 333) (rf_wh (h 323) (h 328) place) i2) i2 (rf_set (fun s => !am_bt (rf_known (h 323) s) (rf_nat ((h 328) i2)) && rf_was (h 323) s place) i17)) i2 ((rf_set (fun s => !am_bt (rf_known (h 323) s) (rf_nat ((h 328) i2)) && rf_was (h 323) s place) i17) ||| (nI 0)))) from am_row_s0) ?_
                refine am_iincN (pc := 71) (ls' := [(0, .ref 322), (1, .int place), (2, .int (nI n)), (3, .int (nI i2)), (4, .int (nI (i17 + 1)))]) C dX12_matchesAll_71 rfl (am_up1 _) (by decide) rfl ?_
                refine am_goto (pc := 74) (tgt := 17) C dX12_matchesAll_74 (by decide) ?_
                refine am_hp (show (am_row h 333 (upd (upd (rf_wr (h 333) (rf_wh (h 323) (h 328) place) i2) i2 (rf_set (fun s => !am_bt (rf_known (h 323) s) (rf_nat ((h 328) i2)) && rf_was (h 323) s place) i17)) i2 ((rf_set (fun s => !am_bt (rf_known (h 323) s) (rf_nat ((h 328) i2)) && rf_was (h 323) s place) i17) ||| (nI 0)))) = (am_row h 333 (upd (rf_wr (h 333) (rf_wh (h 323) (h 328) place) i2) i2 (rf_set (fun s => !am_bt (rf_known (h 323) s) (rf_nat ((h 328) i2)) && rf_was (h 323) s place) (i17 + 1)))) from congrArg (am_row _ 333) (rf_upd_upd.trans (congrArg (upd _ i2) (rf_set_f (by simp [q48]))))) ?_
                exact ih17 (i17 + 1) (by omega) 
              · skip
                refine am_aload_n (pc := 51) C dX12_matchesAll_51 rfl ?_
                refine am_iload (pc := 52) C dX12_matchesAll_52 rfl ?_
                refine am_iload_n (pc := 54) C dX12_matchesAll_54 rfl ?_
                refine am_callVi (Y := mX12_wasAt) (pc := 55) (st := [.int (rf_set (fun s => !am_bt (rf_known (h 323) s) (rf_nat ((h 328) i2)) && rf_was (h 323) s place) i17), .int (nI i2), .ref 333]) (As := [.int (nI i17), .int place]) (x := (am_b (rf_was (h 323) i17 place))) (h2 := (am_row h 333 (upd (rf_wr (h 333) (rf_wh (h 323) (h 328) place) i2) i2 (rf_set (fun s => !am_bt (rf_known (h 323) s) (rf_nat ((h 328) i2)) && rf_was (h 323) s place) i17)))) C dX12_matchesAll_55 k12_433 v_X12_wasAt rfl rfl bn_322 sh_322 ⟨by decide, rfl⟩ (by decide) (Nat.zero_le _) (Nat.zero_le _) (Nat.le_of_ble_eq_true rfl) (c_X12_wasAt hR i17 place hV (show i17 < rf_S (h 323) from by omega) hh) ?_
                refine am_if_eqB (pc := 58) (tgt := 68) C dX12_matchesAll_58 (by decide) (fun q58 => ?_) (fun q58 => ?_)
                · skip
                  refine am_iconstN (pc := 68) (k := 0) C dX12_matchesAll_68 ?_
                  refine am_ior (pc := 69) C dX12_matchesAll_69 ?_
                  refine am_iastore (pc := 70) C dX12_matchesAll_70 bn_333 sh_333 (vp_in_nI (by omega) (by decide)) ?_
                  refine am_hp (show am_up (am_row h 333 (upd (rf_wr (h 333) (rf_wh (h 323) (h 328) place) i2) i2 (rf_set (fun s => !am_bt (rf_known (h 323) s) (rf_nat ((h 328) i2)) && rf_was (h 323) s place) i17))) 333 (nI i2).toNatClampNeg ((rf_set (fun s => !am_bt (rf_known (h 323) s) (rf_nat ((h 328) i2)) && rf_was (h 323) s place) i17) ||| (nI 0)) = am_row (am_row h 333 (upd (rf_wr (h 333) (rf_wh (h 323) (h 328) place) i2) i2 (rf_set (fun s => !am_bt (rf_known (h 323) s) (rf_nat ((h 328) i2)) && rf_was (h 323) s place) i17))) 333 (upd (upd (rf_wr (h 333) (rf_wh (h 323) (h 328) place) i2) i2 (rf_set (fun s => !am_bt (rf_known (h 323) s) (rf_nat ((h 328) i2)) && rf_was (h 323) s place) i17)) i2 ((rf_set (fun s => !am_bt (rf_known (h 323) s) (rf_nat ((h 328) i2)) && rf_was (h 323) s place) i17) ||| (nI 0))) from by rw [nI_clamp (by omega)]; exact am_up_rw _ _ _ _) ?_
                  refine am_hp (show am_row (am_row h 333 (upd (rf_wr (h 333) (rf_wh (h 323) (h 328) place) i2) i2 (rf_set (fun s => !am_bt (rf_known (h 323) s) (rf_nat ((h 328) i2)) && rf_was (h 323) s place) i17))) 333 (upd (upd (rf_wr (h 333) (rf_wh (h 323) (h 328) place) i2) i2 (rf_set (fun s => !am_bt (rf_known (h 323) s) (rf_nat ((h 328) i2)) && rf_was (h 323) s place) i17)) i2 ((rf_set (fun s => !am_bt (rf_known (h 323) s) (rf_nat ((h 328) i2)) && rf_was (h 323) s place) i17) ||| (nI 0))) = (am_row h 333 (upd (upd (rf_wr (h 333) (rf_wh (h 323) (h 328) place) i2) i2 (rf_set (fun s => !am_bt (rf_known (h 323) s) (rf_nat ((h 328) i2)) && rf_was (h 323) s place) i17)) i2 ((rf_set (fun s => !am_bt (rf_known (h 323) s) (rf_nat ((h 328) i2)) && rf_was (h 323) s place) i17) ||| (nI 0)))) from am_row_s0) ?_
                  refine am_iincN (pc := 71) (ls' := [(0, .ref 322), (1, .int place), (2, .int (nI n)), (3, .int (nI i2)), (4, .int (nI (i17 + 1)))]) C dX12_matchesAll_71 rfl (am_up1 _) (by decide) rfl ?_
                  refine am_goto (pc := 74) (tgt := 17) C dX12_matchesAll_74 (by decide) ?_
                  refine am_hp (show (am_row h 333 (upd (upd (rf_wr (h 333) (rf_wh (h 323) (h 328) place) i2) i2 (rf_set (fun s => !am_bt (rf_known (h 323) s) (rf_nat ((h 328) i2)) && rf_was (h 323) s place) i17)) i2 ((rf_set (fun s => !am_bt (rf_known (h 323) s) (rf_nat ((h 328) i2)) && rf_was (h 323) s place) i17) ||| (nI 0)))) = (am_row h 333 (upd (rf_wr (h 333) (rf_wh (h 323) (h 328) place) i2) i2 (rf_set (fun s => !am_bt (rf_known (h 323) s) (rf_nat ((h 328) i2)) && rf_was (h 323) s place) (i17 + 1)))) from congrArg (am_row _ 333) (rf_upd_upd.trans (congrArg (upd _ i2) (rf_set_f (by simp [q48, q58]))))) ?_
                  exact ih17 (i17 + 1) (by omega) 
                · skip
                  refine am_iconstN (pc := 61) (k := 1) C dX12_matchesAll_61 ?_
                  refine am_iload (pc := 62) C dX12_matchesAll_62 rfl ?_
                  refine am_ishl (pc := 64) C dX12_matchesAll_64 ?_
                  refine am_goto (pc := 65) (tgt := 69) C dX12_matchesAll_65 (by decide) ?_
                  refine am_ior (pc := 69) C dX12_matchesAll_69 ?_
                  refine am_iastore (pc := 70) C dX12_matchesAll_70 bn_333 sh_333 (vp_in_nI (by omega) (by decide)) ?_
                  refine am_hp (show am_up (am_row h 333 (upd (rf_wr (h 333) (rf_wh (h 323) (h 328) place) i2) i2 (rf_set (fun s => !am_bt (rf_known (h 323) s) (rf_nat ((h 328) i2)) && rf_was (h 323) s place) i17))) 333 (nI i2).toNatClampNeg ((rf_set (fun s => !am_bt (rf_known (h 323) s) (rf_nat ((h 328) i2)) && rf_was (h 323) s place) i17) ||| ((nI 1) <<< ((nI i17) &&& 31))) = am_row (am_row h 333 (upd (rf_wr (h 333) (rf_wh (h 323) (h 328) place) i2) i2 (rf_set (fun s => !am_bt (rf_known (h 323) s) (rf_nat ((h 328) i2)) && rf_was (h 323) s place) i17))) 333 (upd (upd (rf_wr (h 333) (rf_wh (h 323) (h 328) place) i2) i2 (rf_set (fun s => !am_bt (rf_known (h 323) s) (rf_nat ((h 328) i2)) && rf_was (h 323) s place) i17)) i2 ((rf_set (fun s => !am_bt (rf_known (h 323) s) (rf_nat ((h 328) i2)) && rf_was (h 323) s place) i17) ||| ((nI 1) <<< ((nI i17) &&& 31)))) from by rw [nI_clamp (by omega)]; exact am_up_rw _ _ _ _) ?_
                  refine am_hp (show am_row (am_row h 333 (upd (rf_wr (h 333) (rf_wh (h 323) (h 328) place) i2) i2 (rf_set (fun s => !am_bt (rf_known (h 323) s) (rf_nat ((h 328) i2)) && rf_was (h 323) s place) i17))) 333 (upd (upd (rf_wr (h 333) (rf_wh (h 323) (h 328) place) i2) i2 (rf_set (fun s => !am_bt (rf_known (h 323) s) (rf_nat ((h 328) i2)) && rf_was (h 323) s place) i17)) i2 ((rf_set (fun s => !am_bt (rf_known (h 323) s) (rf_nat ((h 328) i2)) && rf_was (h 323) s place) i17) ||| ((nI 1) <<< ((nI i17) &&& 31)))) = (am_row h 333 (upd (upd (rf_wr (h 333) (rf_wh (h 323) (h 328) place) i2) i2 (rf_set (fun s => !am_bt (rf_known (h 323) s) (rf_nat ((h 328) i2)) && rf_was (h 323) s place) i17)) i2 ((rf_set (fun s => !am_bt (rf_known (h 323) s) (rf_nat ((h 328) i2)) && rf_was (h 323) s place) i17) ||| ((nI 1) <<< ((nI i17) &&& 31))))) from am_row_s0) ?_
                  refine am_iincN (pc := 71) (ls' := [(0, .ref 322), (1, .int place), (2, .int (nI n)), (3, .int (nI i2)), (4, .int (nI (i17 + 1)))]) C dX12_matchesAll_71 rfl (am_up1 _) (by decide) rfl ?_
                  refine am_goto (pc := 74) (tgt := 17) C dX12_matchesAll_74 (by decide) ?_
                  refine am_hp (show (am_row h 333 (upd (upd (rf_wr (h 333) (rf_wh (h 323) (h 328) place) i2) i2 (rf_set (fun s => !am_bt (rf_known (h 323) s) (rf_nat ((h 328) i2)) && rf_was (h 323) s place) i17)) i2 ((rf_set (fun s => !am_bt (rf_known (h 323) s) (rf_nat ((h 328) i2)) && rf_was (h 323) s place) i17) ||| ((nI 1) <<< ((nI i17) &&& 31))))) = (am_row h 333 (upd (rf_wr (h 333) (rf_wh (h 323) (h 328) place) i2) i2 (rf_set (fun s => !am_bt (rf_known (h 323) s) (rf_nat ((h 328) i2)) && rf_was (h 323) s place) (i17 + 1)))) from congrArg (am_row _ 333) (rf_upd_upd.trans (congrArg (upd _ i2) (rf_set_t (by simp [q48, q58]))))) ?_
                  exact ih17 (i17 + 1) (by omega) 
        refine am_hp (show (am_row h 333 (upd (rf_wr (h 333) (rf_wh (h 323) (h 328) place) i2) i2 (nI 0))) = (am_row h 333 (upd (rf_wr (h 333) (rf_wh (h 323) (h 328) place) i2) i2 (rf_set (fun s => !am_bt (rf_known (h 323) s) (rf_nat ((h 328) i2)) && rf_was (h 323) s place) 0))) from rfl) ?_
        exact L17 (rf_S (h 323)) 0 (by omega) 
  refine am_sub (ls' := [(0, .ref 322), (1, .int place), (2, .int (nI n)), (3, .int (nI 0))]) (by intro q hq; simp only [List.mem_cons, List.not_mem_nil, or_false] at hq ⊢; rcases hq with rfl | rfl | rfl | rfl <;> simp) ?_
  refine am_hp (show h = (am_row h 333 (rf_wr (h 333) (rf_wh (h 323) (h 328) place) 0)) from (am_row_id _ 333).symm) ?_
  exact L2 n 0 (by omega) 

set_option maxHeartbeats 400000 in
set_option maxRecDepth 100000 in
theorem c_X12_matches {ad : Nat → Nat} {r : am_R} (hR : am_rs r) {h : am_H} (place : Int32) (k : Int32) (hOb : rf_Ob (h 322)) (hV : rf_I (h 323)) (hh : rf_n ((h 323) 5) 1073741824)  : am_CM mX12_matches 4 0 0 [.ref 322, .int place, .int k] (am_VV ad) r h (am_pj (some (.int (rf_ga (rf_c_matches (h 323) (h 328) (h 322) place k) (rf_a_matches (h 323) (h 328) (h 322) place k)))) r (fun G => (am_row (am_row (am_row h 333 (G 333)) 334 (G 334)) 322 (upd (rf_uses (h 322)) 0 (nI (rf_c_matches (h 323) (h 328) (h 322) place k)))))) := by
  refine am_CM.of (by decide +kernel) (Nat.le_of_ble_eq_true rfl) (fun X C T => ?_)
  show am_G X (am_VV ad) (0, 0) 0 [(0, .ref 322), (1, .int place), (2, .int k)] [] r h
  have hM9 : rf_M (h 323) < 17 := hV.1.1.2
  have hS9 : rf_S (h 323) < 11 := hV.1.2.1.2
  have hO9 : rf_O (h 323) < 11 := hV.1.2.2.2
  have he9 : (rf_nat ((h 322) 9)) < 401 := hOb.1.2
  have hp2 : (2 ^ rf_S (h 323)) ≤ 2 ^ 10 := Nat.pow_le_pow_right (by decide) (by omega)
  have huE : (rf_uses (h 322)) 11 = nI (rf_nat ((h 322) 9)) := by rw [rf_uses, rf_upd_ne (by decide), rf_upd_ne (by decide), rf_upd_eq]; exact hOb.1.1
  refine am_hp (show h = (am_row h 333 (h 333)) from (am_row_id _ _).symm) ?_
  refine am_hp (show (am_row h 333 (h 333)) = (am_row (am_row h 333 (h 333)) 334 (h 334)) from (am_row_id _ _).symm) ?_
  refine am_aload_n (pc := 0) C dX12_matches_0 rfl ?_
  refine am_callVv (Y := mX12_uses) (pc := 1) (st := []) (As := []) (h2 := (am_row (am_row (am_row h 333 (h 333)) 334 (h 334)) 322 (rf_uses (h 322)))) C dX12_matches_1 k12_258 v_X12_uses rfl rfl bn_322 sh_322 ⟨by decide, rfl⟩ (by decide) (Nat.zero_le _) (Nat.zero_le _) (Nat.le_of_ble_eq_true rfl) (c_X12_uses hR ) ?_
  refine am_aload_n (pc := 4) C dX12_matches_4 rfl ?_
  refine am_iload_n (pc := 5) C dX12_matches_5 rfl ?_
  refine am_iconstN (pc := 6) (k := 0) C dX12_matches_6 ?_
  refine am_bipush (pc := 7) (v := nI 7) C dX12_matches_7 (by decide) ?_
  refine am_callSi (Y := mX12_in) (pc := 9) (st := [.ref 322]) (As := [.int place, .int (nI 0), .int (nI 7)]) (x := (am_b (rf_in place (nI 0) (nI 7)))) (h2 := (am_row (am_row (am_row h 333 (h 333)) 334 (h 334)) 322 (rf_uses (h 322)))) C dX12_matches_9 k12_71 v_X12_in rfl rfl (by decide) (Nat.zero_le _) (Nat.zero_le _) (Nat.le_of_ble_eq_true rfl) (c_X12_in hR place (nI 0) (nI 7)) ?_
  refine am_if_neB (pc := 12) (tgt := 19) C dX12_matches_12 (by decide) (fun q12 => ?_) (fun q12 => ?_)
  · skip
    refine am_iconstN (pc := 19) (k := 0) C dX12_matches_19 ?_
    refine am_top (show (nI 0) = (am_b false) from rfl) ?_
    refine am_iconstN (pc := 20) (k := 1) C dX12_matches_20 ?_
    refine am_callVi (Y := mX12_throwsIf) (pc := 21) (st := []) (As := [.int (am_b false), .int (nI 1)]) (x := (am_b false)) (h2 := (am_row (am_row (am_row (am_row h 333 (h 333)) 334 (h 334)) 322 (rf_uses (h 322))) 322 (bif false then upd (rf_uses (h 322)) 0 (nI 1) else (rf_uses (h 322))))) C dX12_matches_21 k12_269 v_X12_throwsIf rfl rfl bn_322 sh_322 ⟨by decide, rfl⟩ (by decide) (Nat.zero_le _) (Nat.zero_le _) (Nat.le_of_ble_eq_true rfl) (c_X12_throwsIf hR false (nI 1)) ?_
    refine am_hp (show (am_row (am_row (am_row (am_row h 333 (h 333)) 334 (h 334)) 322 (rf_uses (h 322))) 322 (bif false then upd (rf_uses (h 322)) 0 (nI 1) else (rf_uses (h 322)))) = (am_row (am_row (am_row h 333 (h 333)) 334 (h 334)) 322 (bif false then upd (rf_uses (h 322)) 0 (nI 1) else (rf_uses (h 322)))) from am_row_s0) ?_
    refine am_hp (show (am_row (am_row (am_row h 333 (h 333)) 334 (h 334)) 322 (bif false then upd (rf_uses (h 322)) 0 (nI 1) else (rf_uses (h 322)))) = (am_row (am_row (am_row h 333 (h 333)) 334 (h 334)) 322 (rf_uses (h 322))) from rfl) ?_
    refine am_if_eqB (pc := 24) (tgt := 29) C dX12_matches_24 (by decide) (fun q24 => ?_) (fun q24 => ?_)
    · skip
      refine am_aload_n (pc := 29) C dX12_matches_29 rfl ?_
      refine am_getI (pc := 30) C dX12_matches_30 f12_102 bn_322 sh_322 ?_
      refine am_top (show ((rf_uses (h 322)) 11) = (nI (rf_nat ((h 322) 9))) from huE) ?_
      refine am_bipush (pc := 33) (v := nI 8) C dX12_matches_33 (by decide) ?_
      refine am_icmp_gtN (pc := 35) (tgt := 56) C dX12_matches_35 (by decide) (by omega) (by omega) (fun q35 => ?_) (fun q35 => ?_)
      · skip
        refine am_iconstN (pc := 56) (k := 0) C dX12_matches_56 ?_
        refine am_top (show (nI 0) = (am_b false) from rfl) ?_
        refine am_istore_n (pc := 57) (ls' := [(0, .ref 322), (1, .int place), (2, .int k), (3, .int (am_b false))]) C dX12_matches_57 (by decide) rfl ?_
        refine am_iconstN (pc := 58) (k := 0) C dX12_matches_58 ?_
        refine am_istore (pc := 59) (ls' := [(0, .ref 322), (1, .int place), (2, .int k), (3, .int (am_b false)), (4, .int (nI 0))]) C dX12_matches_59 (by decide) rfl ?_
        refine am_iload (pc := 61) C dX12_matches_61 rfl ?_
        refine am_aload_n (pc := 63) C dX12_matches_63 rfl ?_
        refine am_getI (pc := 64) C dX12_matches_64 f12_102 bn_322 sh_322 ?_
        refine am_top (show ((rf_uses (h 322)) 11) = (nI (rf_nat ((h 322) 9))) from huE) ?_
        refine am_icmp_geN (pc := 67) (tgt := 100) C dX12_matches_67 (by decide) (by omega) (by omega) (fun q67 => ?_) (fun q67 => ?_)
        · skip
          refine am_aload_n (pc := 100) C dX12_matches_100 rfl ?_
          refine am_iload_n (pc := 101) C dX12_matches_101 rfl ?_
          refine am_if_neB (pc := 102) (tgt := 109) C dX12_matches_102 (by decide) (fun q102 => ?_) (fun q102 => ?_)
          · skip
            exact Bool.noConfusion q102
          · skip
            refine am_iconstN (pc := 105) (k := 1) C dX12_matches_105 ?_
            refine am_goto (pc := 106) (tgt := 110) C dX12_matches_106 (by decide) ?_
            refine am_top (show (nI 1) = (am_b true) from rfl) ?_
            refine am_iconstN (pc := 110) (k := 2) C dX12_matches_110 ?_
            refine am_callVi (Y := mX12_throwsIf) (pc := 111) (st := []) (As := [.int (am_b true), .int (nI 2)]) (x := (am_b true)) (h2 := (am_row (am_row (am_row (am_row h 333 (h 333)) 334 (h 334)) 322 (rf_uses (h 322))) 322 (bif true then upd (rf_uses (h 322)) 0 (nI 2) else (rf_uses (h 322))))) C dX12_matches_111 k12_269 v_X12_throwsIf rfl rfl bn_322 sh_322 ⟨by decide, rfl⟩ (by decide) (Nat.zero_le _) (Nat.zero_le _) (Nat.le_of_ble_eq_true rfl) (c_X12_throwsIf hR true (nI 2)) ?_
            refine am_hp (show (am_row (am_row (am_row (am_row h 333 (h 333)) 334 (h 334)) 322 (rf_uses (h 322))) 322 (bif true then upd (rf_uses (h 322)) 0 (nI 2) else (rf_uses (h 322)))) = (am_row (am_row (am_row h 333 (h 333)) 334 (h 334)) 322 (bif true then upd (rf_uses (h 322)) 0 (nI 2) else (rf_uses (h 322)))) from am_row_s0) ?_
            refine am_hp (show (am_row (am_row (am_row h 333 (h 333)) 334 (h 334)) 322 (bif true then upd (rf_uses (h 322)) 0 (nI 2) else (rf_uses (h 322)))) = (am_row (am_row (am_row h 333 (h 333)) 334 (h 334)) 322 (upd (rf_uses (h 322)) 0 (nI 2))) from rfl) ?_
            refine am_if_eqB (pc := 114) (tgt := 119) C dX12_matches_114 (by decide) (fun q114 => ?_) (fun q114 => ?_)
            · skip
              exact Bool.noConfusion q114
            · skip
              have K9 : rf_c_matches (h 323) (h 328) (h 322) place k = 2 := (rf_cb_nf q12).trans (rf_cb_nt (by rw [rf_mis, decide_eq_false (by omega)]; rfl))
              refine am_iconstN (pc := 117) (k := 0) C dX12_matches_117 ?_
              exact am_iretij (G := (am_row (am_row h 333 (h 333)) 334 (h 334))) T dX12_matches_118 rfl (Nat.le_refl _) (Nat.le_refl _) (by rw [K9]; rfl) rfl (by rw [K9]; exact rfl)
        · skip
          refine am_iload_n (pc := 70) C dX12_matches_70 rfl ?_
          refine am_if_eqB (pc := 71) (tgt := 100) C dX12_matches_71 (by decide) (fun q71 => ?_) (fun q71 => ?_)
          · skip
            refine am_aload_n (pc := 100) C dX12_matches_100 rfl ?_
            refine am_iload_n (pc := 101) C dX12_matches_101 rfl ?_
            refine am_if_neB (pc := 102) (tgt := 109) C dX12_matches_102 (by decide) (fun q102 => ?_) (fun q102 => ?_)
            · skip
              exact Bool.noConfusion (q71.symm.trans q102)
            · skip
              refine am_iconstN (pc := 105) (k := 1) C dX12_matches_105 ?_
              refine am_goto (pc := 106) (tgt := 110) C dX12_matches_106 (by decide) ?_
              refine am_top (show (nI 1) = (am_b true) from rfl) ?_
              refine am_iconstN (pc := 110) (k := 2) C dX12_matches_110 ?_
              refine am_callVi (Y := mX12_throwsIf) (pc := 111) (st := []) (As := [.int (am_b true), .int (nI 2)]) (x := (am_b true)) (h2 := (am_row (am_row (am_row (am_row h 333 (h 333)) 334 (h 334)) 322 (rf_uses (h 322))) 322 (bif true then upd (rf_uses (h 322)) 0 (nI 2) else (rf_uses (h 322))))) C dX12_matches_111 k12_269 v_X12_throwsIf rfl rfl bn_322 sh_322 ⟨by decide, rfl⟩ (by decide) (Nat.zero_le _) (Nat.zero_le _) (Nat.le_of_ble_eq_true rfl) (c_X12_throwsIf hR true (nI 2)) ?_
              refine am_hp (show (am_row (am_row (am_row (am_row h 333 (h 333)) 334 (h 334)) 322 (rf_uses (h 322))) 322 (bif true then upd (rf_uses (h 322)) 0 (nI 2) else (rf_uses (h 322)))) = (am_row (am_row (am_row h 333 (h 333)) 334 (h 334)) 322 (bif true then upd (rf_uses (h 322)) 0 (nI 2) else (rf_uses (h 322)))) from am_row_s0) ?_
              refine am_hp (show (am_row (am_row (am_row h 333 (h 333)) 334 (h 334)) 322 (bif true then upd (rf_uses (h 322)) 0 (nI 2) else (rf_uses (h 322)))) = (am_row (am_row (am_row h 333 (h 333)) 334 (h 334)) 322 (upd (rf_uses (h 322)) 0 (nI 2))) from rfl) ?_
              refine am_if_eqB (pc := 114) (tgt := 119) C dX12_matches_114 (by decide) (fun q114 => ?_) (fun q114 => ?_)
              · skip
                exact Bool.noConfusion q114
              · skip
                have K9 : rf_c_matches (h 323) (h 328) (h 322) place k = 2 := (rf_cb_nf q12).trans (rf_cb_nt (by rw [rf_mis, decide_eq_false (by omega)]; rfl))
                refine am_iconstN (pc := 117) (k := 0) C dX12_matches_117 ?_
                exact am_iretij (G := (am_row (am_row h 333 (h 333)) 334 (h 334))) T dX12_matches_118 rfl (Nat.le_refl _) (Nat.le_refl _) (by rw [K9]; rfl) rfl (by rw [K9]; exact rfl)
          · skip
            exact Bool.noConfusion q71
      · skip
        refine am_iload_n (pc := 38) C dX12_matches_38 rfl ?_
        refine am_iconst (pc := 39) (v := -1) C dX12_matches_39 rfl ?_
        refine am_aload_n (pc := 40) C dX12_matches_40 rfl ?_
        refine am_getI (pc := 41) C dX12_matches_41 f12_102 bn_322 sh_322 ?_
        refine am_top (show ((rf_uses (h 322)) 11) = (nI (rf_nat ((h 322) 9))) from huE) ?_
        refine am_iconstN (pc := 44) (k := 1) C dX12_matches_44 ?_
        refine am_isub (pc := 45) C dX12_matches_45 ?_
        refine am_callSi (Y := mX12_in) (pc := 46) (st := []) (As := [.int k, .int (-1), .int ((nI (rf_nat ((h 322) 9))) - (nI 1))]) (x := (am_b (rf_in k (-1) ((nI (rf_nat ((h 322) 9))) - (nI 1))))) (h2 := (am_row (am_row (am_row h 333 (h 333)) 334 (h 334)) 322 (rf_uses (h 322)))) C dX12_matches_46 k12_71 v_X12_in rfl rfl (by decide) (Nat.zero_le _) (Nat.zero_le _) (Nat.le_of_ble_eq_true rfl) (c_X12_in hR k (-1) ((nI (rf_nat ((h 322) 9))) - (nI 1))) ?_
        refine am_if_eqB (pc := 49) (tgt := 56) C dX12_matches_49 (by decide) (fun q49 => ?_) (fun q49 => ?_)
        · skip
          refine am_iconstN (pc := 56) (k := 0) C dX12_matches_56 ?_
          refine am_top (show (nI 0) = (am_b false) from rfl) ?_
          refine am_istore_n (pc := 57) (ls' := [(0, .ref 322), (1, .int place), (2, .int k), (3, .int (am_b false))]) C dX12_matches_57 (by decide) rfl ?_
          refine am_iconstN (pc := 58) (k := 0) C dX12_matches_58 ?_
          refine am_istore (pc := 59) (ls' := [(0, .ref 322), (1, .int place), (2, .int k), (3, .int (am_b false)), (4, .int (nI 0))]) C dX12_matches_59 (by decide) rfl ?_
          refine am_iload (pc := 61) C dX12_matches_61 rfl ?_
          refine am_aload_n (pc := 63) C dX12_matches_63 rfl ?_
          refine am_getI (pc := 64) C dX12_matches_64 f12_102 bn_322 sh_322 ?_
          refine am_top (show ((rf_uses (h 322)) 11) = (nI (rf_nat ((h 322) 9))) from huE) ?_
          refine am_icmp_geN (pc := 67) (tgt := 100) C dX12_matches_67 (by decide) (by omega) (by omega) (fun q67 => ?_) (fun q67 => ?_)
          · skip
            refine am_aload_n (pc := 100) C dX12_matches_100 rfl ?_
            refine am_iload_n (pc := 101) C dX12_matches_101 rfl ?_
            refine am_if_neB (pc := 102) (tgt := 109) C dX12_matches_102 (by decide) (fun q102 => ?_) (fun q102 => ?_)
            · skip
              exact Bool.noConfusion q102
            · skip
              refine am_iconstN (pc := 105) (k := 1) C dX12_matches_105 ?_
              refine am_goto (pc := 106) (tgt := 110) C dX12_matches_106 (by decide) ?_
              refine am_top (show (nI 1) = (am_b true) from rfl) ?_
              refine am_iconstN (pc := 110) (k := 2) C dX12_matches_110 ?_
              refine am_callVi (Y := mX12_throwsIf) (pc := 111) (st := []) (As := [.int (am_b true), .int (nI 2)]) (x := (am_b true)) (h2 := (am_row (am_row (am_row (am_row h 333 (h 333)) 334 (h 334)) 322 (rf_uses (h 322))) 322 (bif true then upd (rf_uses (h 322)) 0 (nI 2) else (rf_uses (h 322))))) C dX12_matches_111 k12_269 v_X12_throwsIf rfl rfl bn_322 sh_322 ⟨by decide, rfl⟩ (by decide) (Nat.zero_le _) (Nat.zero_le _) (Nat.le_of_ble_eq_true rfl) (c_X12_throwsIf hR true (nI 2)) ?_
              refine am_hp (show (am_row (am_row (am_row (am_row h 333 (h 333)) 334 (h 334)) 322 (rf_uses (h 322))) 322 (bif true then upd (rf_uses (h 322)) 0 (nI 2) else (rf_uses (h 322)))) = (am_row (am_row (am_row h 333 (h 333)) 334 (h 334)) 322 (bif true then upd (rf_uses (h 322)) 0 (nI 2) else (rf_uses (h 322)))) from am_row_s0) ?_
              refine am_hp (show (am_row (am_row (am_row h 333 (h 333)) 334 (h 334)) 322 (bif true then upd (rf_uses (h 322)) 0 (nI 2) else (rf_uses (h 322)))) = (am_row (am_row (am_row h 333 (h 333)) 334 (h 334)) 322 (upd (rf_uses (h 322)) 0 (nI 2))) from rfl) ?_
              refine am_if_eqB (pc := 114) (tgt := 119) C dX12_matches_114 (by decide) (fun q114 => ?_) (fun q114 => ?_)
              · skip
                exact Bool.noConfusion q114
              · skip
                have K9 : rf_c_matches (h 323) (h 328) (h 322) place k = 2 := (rf_cb_nf q12).trans (rf_cb_nt (by rw [rf_mis, q49, Bool.and_false]; rfl))
                refine am_iconstN (pc := 117) (k := 0) C dX12_matches_117 ?_
                exact am_iretij (G := (am_row (am_row h 333 (h 333)) 334 (h 334))) T dX12_matches_118 rfl (Nat.le_refl _) (Nat.le_refl _) (by rw [K9]; rfl) rfl (by rw [K9]; exact rfl)
          · skip
            refine am_iload_n (pc := 70) C dX12_matches_70 rfl ?_
            refine am_if_eqB (pc := 71) (tgt := 100) C dX12_matches_71 (by decide) (fun q71 => ?_) (fun q71 => ?_)
            · skip
              refine am_aload_n (pc := 100) C dX12_matches_100 rfl ?_
              refine am_iload_n (pc := 101) C dX12_matches_101 rfl ?_
              refine am_if_neB (pc := 102) (tgt := 109) C dX12_matches_102 (by decide) (fun q102 => ?_) (fun q102 => ?_)
              · skip
                exact Bool.noConfusion (q71.symm.trans q102)
              · skip
                refine am_iconstN (pc := 105) (k := 1) C dX12_matches_105 ?_
                refine am_goto (pc := 106) (tgt := 110) C dX12_matches_106 (by decide) ?_
                refine am_top (show (nI 1) = (am_b true) from rfl) ?_
                refine am_iconstN (pc := 110) (k := 2) C dX12_matches_110 ?_
                refine am_callVi (Y := mX12_throwsIf) (pc := 111) (st := []) (As := [.int (am_b true), .int (nI 2)]) (x := (am_b true)) (h2 := (am_row (am_row (am_row (am_row h 333 (h 333)) 334 (h 334)) 322 (rf_uses (h 322))) 322 (bif true then upd (rf_uses (h 322)) 0 (nI 2) else (rf_uses (h 322))))) C dX12_matches_111 k12_269 v_X12_throwsIf rfl rfl bn_322 sh_322 ⟨by decide, rfl⟩ (by decide) (Nat.zero_le _) (Nat.zero_le _) (Nat.le_of_ble_eq_true rfl) (c_X12_throwsIf hR true (nI 2)) ?_
                refine am_hp (show (am_row (am_row (am_row (am_row h 333 (h 333)) 334 (h 334)) 322 (rf_uses (h 322))) 322 (bif true then upd (rf_uses (h 322)) 0 (nI 2) else (rf_uses (h 322)))) = (am_row (am_row (am_row h 333 (h 333)) 334 (h 334)) 322 (bif true then upd (rf_uses (h 322)) 0 (nI 2) else (rf_uses (h 322)))) from am_row_s0) ?_
                refine am_hp (show (am_row (am_row (am_row h 333 (h 333)) 334 (h 334)) 322 (bif true then upd (rf_uses (h 322)) 0 (nI 2) else (rf_uses (h 322)))) = (am_row (am_row (am_row h 333 (h 333)) 334 (h 334)) 322 (upd (rf_uses (h 322)) 0 (nI 2))) from rfl) ?_
                refine am_if_eqB (pc := 114) (tgt := 119) C dX12_matches_114 (by decide) (fun q114 => ?_) (fun q114 => ?_)
                · skip
                  exact Bool.noConfusion q114
                · skip
                  have K9 : rf_c_matches (h 323) (h 328) (h 322) place k = 2 := (rf_cb_nf q12).trans (rf_cb_nt (by rw [rf_mis, q49, Bool.and_false]; rfl))
                  refine am_iconstN (pc := 117) (k := 0) C dX12_matches_117 ?_
                  exact am_iretij (G := (am_row (am_row h 333 (h 333)) 334 (h 334))) T dX12_matches_118 rfl (Nat.le_refl _) (Nat.le_refl _) (by rw [K9]; rfl) rfl (by rw [K9]; exact rfl)
            · skip
              exact Bool.noConfusion q71
        · skip
          refine am_iconstN (pc := 52) (k := 1) C dX12_matches_52 ?_
          refine am_goto (pc := 53) (tgt := 57) C dX12_matches_53 (by decide) ?_
          refine am_top (show (nI 1) = (am_b (rf_mis (h 323) (h 328) (rf_nat ((h 322) 9)) k 0)) from (by rw [rf_mis, decide_eq_true (by omega), q49]; rfl)) ?_
          refine am_istore_n (pc := 57) (ls' := [(0, .ref 322), (1, .int place), (2, .int k), (3, .int (am_b (rf_mis (h 323) (h 328) (rf_nat ((h 322) 9)) k 0)))]) C dX12_matches_57 (by decide) rfl ?_
          refine am_iconstN (pc := 58) (k := 0) C dX12_matches_58 ?_
          refine am_istore (pc := 59) (ls' := [(0, .ref 322), (1, .int place), (2, .int k), (3, .int (am_b (rf_mis (h 323) (h 328) (rf_nat ((h 322) 9)) k 0))), (4, .int (nI 0))]) C dX12_matches_59 (by decide) rfl ?_
          have L61 : ∀ (j61 i61 : Nat), i61 + j61 = (rf_nat ((h 322) 9)) → am_G X (am_VV ad) (0, 0) 61 [(0, .ref 322), (1, .int place), (2, .int k), (3, .int (am_b (rf_mis (h 323) (h 328) (rf_nat ((h 322) 9)) k i61))), (4, .int (nI i61))] [] r (am_row (am_row (am_row h 333 (h 333)) 334 (h 334)) 322 (rf_uses (h 322))) := by
            intro j61
            induction j61 with
            | zero =>
              intro i61 hi61 
              obtain rfl : i61 = (rf_nat ((h 322) 9)) := by omega
              refine am_iload (pc := 61) C dX12_matches_61 rfl ?_
              refine am_aload_n (pc := 63) C dX12_matches_63 rfl ?_
              refine am_getI (pc := 64) C dX12_matches_64 f12_102 bn_322 sh_322 ?_
              refine am_top (show ((rf_uses (h 322)) 11) = (nI (rf_nat ((h 322) 9))) from huE) ?_
              refine am_icmp_geN (pc := 67) (tgt := 100) C dX12_matches_67 (by decide) (by omega) (by omega) (fun q67 => ?_) (fun q67 => ?_)
              · skip
                refine am_aload_n (pc := 100) C dX12_matches_100 rfl ?_
                refine am_iload_n (pc := 101) C dX12_matches_101 rfl ?_
                refine am_if_neB (pc := 102) (tgt := 109) C dX12_matches_102 (by decide) (fun q102 => ?_) (fun q102 => ?_)
                · skip
                  refine am_iconstN (pc := 109) (k := 0) C dX12_matches_109 ?_
                  refine am_top (show (nI 0) = (am_b false) from rfl) ?_
                  refine am_iconstN (pc := 110) (k := 2) C dX12_matches_110 ?_
                  refine am_callVi (Y := mX12_throwsIf) (pc := 111) (st := []) (As := [.int (am_b false), .int (nI 2)]) (x := (am_b false)) (h2 := (am_row (am_row (am_row (am_row h 333 (h 333)) 334 (h 334)) 322 (rf_uses (h 322))) 322 (bif false then upd (rf_uses (h 322)) 0 (nI 2) else (rf_uses (h 322))))) C dX12_matches_111 k12_269 v_X12_throwsIf rfl rfl bn_322 sh_322 ⟨by decide, rfl⟩ (by decide) (Nat.zero_le _) (Nat.zero_le _) (Nat.le_of_ble_eq_true rfl) (c_X12_throwsIf hR false (nI 2)) ?_
                  refine am_hp (show (am_row (am_row (am_row (am_row h 333 (h 333)) 334 (h 334)) 322 (rf_uses (h 322))) 322 (bif false then upd (rf_uses (h 322)) 0 (nI 2) else (rf_uses (h 322)))) = (am_row (am_row (am_row h 333 (h 333)) 334 (h 334)) 322 (bif false then upd (rf_uses (h 322)) 0 (nI 2) else (rf_uses (h 322)))) from am_row_s0) ?_
                  refine am_hp (show (am_row (am_row (am_row h 333 (h 333)) 334 (h 334)) 322 (bif false then upd (rf_uses (h 322)) 0 (nI 2) else (rf_uses (h 322)))) = (am_row (am_row (am_row h 333 (h 333)) 334 (h 334)) 322 (rf_uses (h 322))) from rfl) ?_
                  refine am_if_eqB (pc := 114) (tgt := 119) C dX12_matches_114 (by decide) (fun q114 => ?_) (fun q114 => ?_)
                  · skip
                    have hmi : rf_mis (h 323) (h 328) (rf_nat ((h 322) 9)) k (rf_nat ((h 322) 9)) = true := q102
                    have K9 : rf_c_matches (h 323) (h 328) (h 322) place k = 0 := (rf_cb_nf q12).trans (rf_cb_nf hmi)
                    simp only [rf_mis, Bool.and_eq_true, decide_eq_true_eq] at hmi
                    obtain ⟨⟨he8, hki⟩, hmk⟩ := hmi
                    have htp : ∀ i, i < (rf_nat ((h 322) 9)) → rf_n ((h 328) i) (rf_M (h 323)) := fun i hi => rf_okN_n (by omega) (rf_mok_in _ hmk i hi)
                    have hm3 := rf_m3_ok (wh := (rf_wh (h 323) (h 328) place)) (S := (rf_S (h 323))) (n := (rf_nat ((h 322) 9))) (row := rf_m1 (h 334) (rf_nat ((h 322) 9)) (2 ^ rf_S (h 323))) (by omega) (fun j hj => rf_m1_in _ hj) (rf_nat ((h 322) 9)) (Nat.le_refl _)
                    have hm0 : (rf_m3 (rf_wh (h 323) (h 328) place) (rf_S (h 323)) (rf_nat ((h 322) 9)) (rf_m1 (h 334) (rf_nat ((h 322) 9)) (2 ^ rf_S (h 323))) (rf_nat ((h 322) 9))) 0 = (rf_ways (rf_wh (h 323) (h 328) place) (rf_S (h 323)) (rf_nat ((h 322) 9)) (rf_nat ((h 322) 9)) 0) := by
                      have := hm3 (rf_nat ((h 322) 9)) (Nat.le_refl _) 0 (Nat.pow_pos (by decide))
                      rw [Nat.sub_self, Nat.zero_mul, Nat.zero_add] at this
                      exact this
                    refine am_aload_n (pc := 119) C dX12_matches_119 rfl ?_
                    refine am_iload_n (pc := 120) C dX12_matches_120 rfl ?_
                    refine am_aload_n (pc := 121) C dX12_matches_121 rfl ?_
                    refine am_getI (pc := 122) C dX12_matches_122 f12_102 bn_322 sh_322 ?_
                    refine am_top (show ((rf_uses (h 322)) 11) = (nI (rf_nat ((h 322) 9))) from huE) ?_
                    refine am_callVv (Y := mX12_matchesAll) (pc := 125) (st := []) (As := [.int place, .int (nI (rf_nat ((h 322) 9)))]) (h2 := (am_row (am_row (am_row (am_row (am_row h 333 (h 333)) 334 (h 334)) 322 (rf_uses (h 322))) 333 (rf_wr (h 333) (rf_wh (h 323) (h 328) place) (rf_nat ((h 322) 9)))) 334 (rf_m3 (rf_wh (h 323) (h 328) place) (rf_S (h 323)) (rf_nat ((h 322) 9)) (rf_m1 (h 334) (rf_nat ((h 322) 9)) (2 ^ rf_S (h 323))) (rf_nat ((h 322) 9))))) C dX12_matches_125 k12_436 v_X12_matchesAll rfl rfl bn_322 sh_322 ⟨by decide, rfl⟩ (by decide) (Nat.zero_le _) (Nat.zero_le _) (Nat.le_of_ble_eq_true rfl) (c_X12_matchesAll hR place (rf_nat ((h 322) 9)) (show rf_I (h 323) from hV) (show (rf_nat ((h 322) 9)) ≤ 8 from he8) (show ∀ i, i < (rf_nat ((h 322) 9)) → rf_n ((h 328) i) (rf_M (h 323)) from htp) (show rf_n ((h 323) 5) 1073741824 from hh)) ?_
                    refine am_hp (show (am_row (am_row (am_row (am_row (am_row h 333 (h 333)) 334 (h 334)) 322 (rf_uses (h 322))) 333 (rf_wr (h 333) (rf_wh (h 323) (h 328) place) (rf_nat ((h 322) 9)))) 334 (rf_m3 (rf_wh (h 323) (h 328) place) (rf_S (h 323)) (rf_nat ((h 322) 9)) (rf_m1 (h 334) (rf_nat ((h 322) 9)) (2 ^ rf_S (h 323))) (rf_nat ((h 322) 9)))) = (am_row (am_row (am_row (am_row h 333 (rf_wr (h 333) (rf_wh (h 323) (h 328) place) (rf_nat ((h 322) 9)))) 334 (h 334)) 322 (rf_uses (h 322))) 334 (rf_m3 (rf_wh (h 323) (h 328) place) (rf_S (h 323)) (rf_nat ((h 322) 9)) (rf_m1 (h 334) (rf_nat ((h 322) 9)) (2 ^ rf_S (h 323))) (rf_nat ((h 322) 9)))) from by rw [show (am_row (am_row (am_row (am_row h 333 (h 333)) 334 (h 334)) 322 (rf_uses (h 322))) 333 (rf_wr (h 333) (rf_wh (h 323) (h 328) place) (rf_nat ((h 322) 9)))) = (am_row (am_row (am_row h 333 (rf_wr (h 333) (rf_wh (h 323) (h 328) place) (rf_nat ((h 322) 9)))) 334 (h 334)) 322 (rf_uses (h 322))) from am_row_s2 (by decide) (by decide)]) ?_
                    refine am_hp (show (am_row (am_row (am_row (am_row h 333 (rf_wr (h 333) (rf_wh (h 323) (h 328) place) (rf_nat ((h 322) 9)))) 334 (h 334)) 322 (rf_uses (h 322))) 334 (rf_m3 (rf_wh (h 323) (h 328) place) (rf_S (h 323)) (rf_nat ((h 322) 9)) (rf_m1 (h 334) (rf_nat ((h 322) 9)) (2 ^ rf_S (h 323))) (rf_nat ((h 322) 9)))) = (am_row (am_row (am_row h 333 (rf_wr (h 333) (rf_wh (h 323) (h 328) place) (rf_nat ((h 322) 9)))) 334 (rf_m3 (rf_wh (h 323) (h 328) place) (rf_S (h 323)) (rf_nat ((h 322) 9)) (rf_m1 (h 334) (rf_nat ((h 322) 9)) (2 ^ rf_S (h 323))) (rf_nat ((h 322) 9)))) 322 (rf_uses (h 322))) from am_row_s1 (by decide)) ?_
                    refine am_iload_n (pc := 128) C dX12_matches_128 rfl ?_
                    refine am_iconst (pc := 129) (v := -1) C dX12_matches_129 rfl ?_
                    refine am_icmp_eq (pc := 130) (tgt := 142) C dX12_matches_130 (by decide) (fun q130 => ?_) (fun q130 => ?_)
                    · skip
                      refine am_iload_n (pc := 142) C dX12_matches_142 rfl ?_
                      refine am_iconst (pc := 143) (v := -1) C dX12_matches_143 rfl ?_
                      refine am_icmp_ne (pc := 144) (tgt := 156) C dX12_matches_144 (by decide) (fun q144 => ?_) (fun q144 => ?_)
                      · skip
                        exact absurd q130 q144
                      · skip
                        refine am_aload_n (pc := 147) C dX12_matches_147 rfl ?_
                        refine am_getR (pc := 148) (j := 334) C dX12_matches_148 f12_53 bn_322 sh_322 (rf_322_21 hR) ?_
                        refine am_iconstN (pc := 151) (k := 0) C dX12_matches_151 ?_
                        refine am_iaload (pc := 152) C dX12_matches_152 bn_334 sh_334 (vp_in_nI (by omega) (by decide)) ?_
                        refine am_top (show (rf_m3 (rf_wh (h 323) (h 328) place) (rf_S (h 323)) (rf_nat ((h 322) 9)) (rf_m1 (h 334) (rf_nat ((h 322) 9)) (2 ^ rf_S (h 323))) (rf_nat ((h 322) 9))) (nI 0).toNatClampNeg = (rf_m3 (rf_wh (h 323) (h 328) place) (rf_S (h 323)) (rf_nat ((h 322) 9)) (rf_m1 (h 334) (rf_nat ((h 322) 9)) (2 ^ rf_S (h 323))) (rf_nat ((h 322) 9))) 0 from by rw [nI_clamp (by omega)]) ?_
                        refine am_top (show ((rf_m3 (rf_wh (h 323) (h 328) place) (rf_S (h 323)) (rf_nat ((h 322) 9)) (rf_m1 (h 334) (rf_nat ((h 322) 9)) (2 ^ rf_S (h 323))) (rf_nat ((h 322) 9))) 0) = (rf_ways (rf_wh (h 323) (h 328) place) (rf_S (h 323)) (rf_nat ((h 322) 9)) (rf_nat ((h 322) 9)) 0) from hm0) ?_
                        refine am_goto (pc := 153) (tgt := 157) C dX12_matches_153 (by decide) ?_
                        have A9 : rf_a_matches (h 323) (h 328) (h 322) place k = (rf_ways (rf_wh (h 323) (h 328) place) (rf_S (h 323)) (rf_nat ((h 322) 9)) (rf_nat ((h 322) 9)) 0) := (by rw [rf_a_matches, if_pos q130])
                        exact am_iretij (G := (am_row (am_row h 333 (rf_wr (h 333) (rf_wh (h 323) (h 328) place) (rf_nat ((h 322) 9)))) 334 (rf_m3 (rf_wh (h 323) (h 328) place) (rf_S (h 323)) (rf_nat ((h 322) 9)) (rf_m1 (h 334) (rf_nat ((h 322) 9)) (2 ^ rf_S (h 323))) (rf_nat ((h 322) 9))))) T dX12_matches_157 rfl (Nat.le_refl _) (Nat.le_refl _) (by rw [K9, rf_ga_0]; exact A9.symm) rfl (by rw [K9]; exact (congrArg (am_row _ 322) (rf_upd_id (rf_upd_ne (by decide)))).symm)
                    · skip
                      refine am_aload_n (pc := 133) C dX12_matches_133 rfl ?_
                      refine am_getR (pc := 134) (j := 334) C dX12_matches_134 f12_53 bn_322 sh_322 (rf_322_21 hR) ?_
                      refine am_iconstN (pc := 137) (k := 0) C dX12_matches_137 ?_
                      refine am_iaload (pc := 138) C dX12_matches_138 bn_334 sh_334 (vp_in_nI (by omega) (by decide)) ?_
                      refine am_top (show (rf_m3 (rf_wh (h 323) (h 328) place) (rf_S (h 323)) (rf_nat ((h 322) 9)) (rf_m1 (h 334) (rf_nat ((h 322) 9)) (2 ^ rf_S (h 323))) (rf_nat ((h 322) 9))) (nI 0).toNatClampNeg = (rf_m3 (rf_wh (h 323) (h 328) place) (rf_S (h 323)) (rf_nat ((h 322) 9)) (rf_m1 (h 334) (rf_nat ((h 322) 9)) (2 ^ rf_S (h 323))) (rf_nat ((h 322) 9))) 0 from by rw [nI_clamp (by omega)]) ?_
                      refine am_top (show ((rf_m3 (rf_wh (h 323) (h 328) place) (rf_S (h 323)) (rf_nat ((h 322) 9)) (rf_m1 (h 334) (rf_nat ((h 322) 9)) (2 ^ rf_S (h 323))) (rf_nat ((h 322) 9))) 0) = (rf_ways (rf_wh (h 323) (h 328) place) (rf_S (h 323)) (rf_nat ((h 322) 9)) (rf_nat ((h 322) 9)) 0) from hm0) ?_
                      refine am_if_ne (pc := 139) (tgt := 158) C dX12_matches_139 (by decide) (fun q139 => ?_) (fun q139 => ?_)
                      · skip
                        have hkn : rf_n k (rf_nat ((h 322) 9)) := rf_kin hki q130
                        have hkn2 : rf_nat k < (rf_nat ((h 322) 9)) := hkn.2
                        have hgn := rf_gn_ok (wh := (rf_wh (h 323) (h 328) place)) (S := (rf_S (h 323))) (n := (rf_nat ((h 322) 9))) (by omega) (by exact q139)
                        refine am_lsv (ls' := [(0, .ref 322), (1, .int place), (2, .int (nI (rf_nat k))), (3, .int (am_b (rf_mis (h 323) (h 328) (rf_nat ((h 322) 9)) k (rf_nat ((h 322) 9))))), (4, .int (nI (rf_nat ((h 322) 9))))]) (congrArg (fun z9 : Int32 => ([(0, .ref 322), (1, .int place), (2, Value.int z9), (3, .int (am_b (rf_mis (h 323) (h 328) (rf_nat ((h 322) 9)) k (rf_nat ((h 322) 9))))), (4, .int (nI (rf_nat ((h 322) 9))))] : List (Nat × Value))) (show k = (nI (rf_nat k)) from hkn.1)) ?_
                        refine am_iconstN (pc := 158) (k := 0) C dX12_matches_158 ?_
                        refine am_istore (pc := 159) (ls' := [(0, .ref 322), (1, .int place), (2, .int (nI (rf_nat k))), (3, .int (am_b (rf_mis (h 323) (h 328) (rf_nat ((h 322) 9)) k (rf_nat ((h 322) 9))))), (4, .int (nI 0))]) C dX12_matches_159 (by decide) rfl ?_
                        refine am_iconst (pc := 161) (v := -1) C dX12_matches_161 rfl ?_
                        refine am_istore (pc := 162) (ls' := [(0, .ref 322), (1, .int place), (2, .int (nI (rf_nat k))), (3, .int (am_b (rf_mis (h 323) (h 328) (rf_nat ((h 322) 9)) k (rf_nat ((h 322) 9))))), (4, .int (nI 0)), (5, .int (-1))]) C dX12_matches_162 (by decide) rfl ?_
                        refine am_iconstN (pc := 164) (k := 0) C dX12_matches_164 ?_
                        refine am_istore (pc := 165) (ls' := [(0, .ref 322), (1, .int place), (2, .int (nI (rf_nat k))), (3, .int (am_b (rf_mis (h 323) (h 328) (rf_nat ((h 322) 9)) k (rf_nat ((h 322) 9))))), (4, .int (nI 0)), (5, .int (-1)), (6, .int (nI 0))]) C dX12_matches_165 (by decide) rfl ?_
                        have L167 : ∀ (j167 i167 : Nat), i167 + j167 = rf_nat k + 1 → am_G X (am_VV ad) (0, 0) 167 [(0, .ref 322), (1, .int place), (2, .int (nI (rf_nat k))), (3, .int (am_b (rf_mis (h 323) (h 328) (rf_nat ((h 322) 9)) k (rf_nat ((h 322) 9))))), (4, .int (nI (rf_gn (rf_wh (h 323) (h 328) place) (rf_S (h 323)) (rf_nat ((h 322) 9)) i167))), (5, .int (am_oi (rf_lst (rf_wh (h 323) (h 328) place) (rf_S (h 323)) (rf_nat ((h 322) 9)) i167))), (6, .int (nI i167))] [] r (am_row (am_row (am_row h 333 (rf_wr (h 333) (rf_wh (h 323) (h 328) place) (rf_nat ((h 322) 9)))) 334 (rf_m3 (rf_wh (h 323) (h 328) place) (rf_S (h 323)) (rf_nat ((h 322) 9)) (rf_m1 (h 334) (rf_nat ((h 322) 9)) (2 ^ rf_S (h 323))) (rf_nat ((h 322) 9)))) 322 (rf_uses (h 322))) := by
                          intro j167
                          induction j167 with
                          | zero =>
                            intro i167 hi167 
                            obtain rfl : i167 = rf_nat k + 1 := by omega
                            refine am_iload (pc := 167) C dX12_matches_167 rfl ?_
                            refine am_iload_n (pc := 169) C dX12_matches_169 rfl ?_
                            refine am_icmp_gtN (pc := 170) (tgt := 240) C dX12_matches_170 (by decide) (by omega) (by omega) (fun q170 => ?_) (fun q170 => ?_)
                            · skip
                              refine am_iload (pc := 240) C dX12_matches_240 rfl ?_
                              have A9 : rf_a_matches (h 323) (h 328) (h 322) place k = (am_oi (rf_lst (rf_wh (h 323) (h 328) place) (rf_S (h 323)) (rf_nat ((h 322) 9)) (rf_nat k + 1))) := (by rw [rf_a_matches, if_neg q130, if_neg q139]; exact (am_oi_s _).symm)
                              exact am_iretij (G := (am_row (am_row h 333 (rf_wr (h 333) (rf_wh (h 323) (h 328) place) (rf_nat ((h 322) 9)))) 334 (rf_m3 (rf_wh (h 323) (h 328) place) (rf_S (h 323)) (rf_nat ((h 322) 9)) (rf_m1 (h 334) (rf_nat ((h 322) 9)) (2 ^ rf_S (h 323))) (rf_nat ((h 322) 9))))) T dX12_matches_242 rfl (Nat.le_refl _) (Nat.le_refl _) (by rw [K9, rf_ga_0]; exact A9.symm) rfl (by rw [K9]; exact (congrArg (am_row _ 322) (rf_upd_id (rf_upd_ne (by decide)))).symm)
                            · skip
                              exact absurd q170 (by omega)
                          | succ j167 ih167 =>
                            intro i167 hi167 
                            have hl167 : i167 < rf_nat k + 1 := by omega
                            have hg9 := hgn i167 (by omega)
                            have hpk := rf_pk_ok (wh := (rf_wh (h 323) (h 328) place)) (S := (rf_S (h 323))) (show i167 < (rf_nat ((h 322) 9)) by omega) hg9.2
                            have hpk1 := hpk.2.1
                            rw [rf_pkp, Bool.and_eq_true, decide_eq_true_eq] at hpk1
                            have hpk0 := hpk.1
                            have hwp9 : rf_ws (rf_gn (rf_wh (h 323) (h 328) place) (rf_S (h 323)) (rf_nat ((h 322) 9)) i167) (rf_pk (rf_wh (h 323) (h 328) place) (rf_S (h 323)) (rf_nat ((h 322) 9)) i167 (rf_gn (rf_wh (h 323) (h 328) place) (rf_S (h 323)) (rf_nat ((h 322) 9)) i167)) < 2 ^ 10 := rf_ws_lt (by decide) (by omega) (by omega)
                            refine am_iload (pc := 167) C dX12_matches_167 rfl ?_
                            refine am_iload_n (pc := 169) C dX12_matches_169 rfl ?_
                            refine am_icmp_gtN (pc := 170) (tgt := 240) C dX12_matches_170 (by decide) (by omega) (by omega) (fun q170 => ?_) (fun q170 => ?_)
                            · skip
                              exact absurd q170 (by omega)
                            · skip
                              refine am_iconstN (pc := 173) (k := 0) C dX12_matches_173 ?_
                              refine am_istore (pc := 174) (ls' := [(0, .ref 322), (1, .int place), (2, .int (nI (rf_nat k))), (3, .int (am_b (rf_mis (h 323) (h 328) (rf_nat ((h 322) 9)) k (rf_nat ((h 322) 9))))), (4, .int (nI (rf_gn (rf_wh (h 323) (h 328) place) (rf_S (h 323)) (rf_nat ((h 322) 9)) i167))), (5, .int (nI 0)), (6, .int (nI i167))]) C dX12_matches_174 (by decide) rfl ?_
                              have L176 : ∀ (j176 i176 : Nat), i176 + j176 = (rf_pk (rf_wh (h 323) (h 328) place) (rf_S (h 323)) (rf_nat ((h 322) 9)) i167 (rf_gn (rf_wh (h 323) (h 328) place) (rf_S (h 323)) (rf_nat ((h 322) 9)) i167)) → am_G X (am_VV ad) (0, 0) 176 [(0, .ref 322), (1, .int place), (2, .int (nI (rf_nat k))), (3, .int (am_b (rf_mis (h 323) (h 328) (rf_nat ((h 322) 9)) k (rf_nat ((h 322) 9))))), (4, .int (nI (rf_gn (rf_wh (h 323) (h 328) place) (rf_S (h 323)) (rf_nat ((h 322) 9)) i167))), (5, .int (nI i176)), (6, .int (nI i167))] [] r (am_row (am_row (am_row h 333 (rf_wr (h 333) (rf_wh (h 323) (h 328) place) (rf_nat ((h 322) 9)))) 334 (rf_m3 (rf_wh (h 323) (h 328) place) (rf_S (h 323)) (rf_nat ((h 322) 9)) (rf_m1 (h 334) (rf_nat ((h 322) 9)) (2 ^ rf_S (h 323))) (rf_nat ((h 322) 9)))) 322 (rf_uses (h 322))) := by
                                intro j176
                                induction j176 with
                                | zero =>
                                  intro i176 hi176 
                                  obtain rfl : i176 = (rf_pk (rf_wh (h 323) (h 328) place) (rf_S (h 323)) (rf_nat ((h 322) 9)) i167 (rf_gn (rf_wh (h 323) (h 328) place) (rf_S (h 323)) (rf_nat ((h 322) 9)) i167)) := by omega
                                  have hws9 : rf_ws (rf_gn (rf_wh (h 323) (h 328) place) (rf_S (h 323)) (rf_nat ((h 322) 9)) i167) (rf_pk (rf_wh (h 323) (h 328) place) (rf_S (h 323)) (rf_nat ((h 322) 9)) i167 (rf_gn (rf_wh (h 323) (h 328) place) (rf_S (h 323)) (rf_nat ((h 322) 9)) i167)) < 2 ^ 10 := hwp9
                                  refine am_aload_n (pc := 176) C dX12_matches_176 rfl ?_
                                  refine am_getR (pc := 177) (j := 333) C dX12_matches_177 f12_50 bn_322 sh_322 (rf_322_20 hR) ?_
                                  refine am_iload (pc := 180) C dX12_matches_180 rfl ?_
                                  refine am_iaload (pc := 182) C dX12_matches_182 bn_333 sh_333 (vp_in_nI (by omega) (by decide)) ?_
                                  refine am_top (show (rf_wr (h 333) (rf_wh (h 323) (h 328) place) (rf_nat ((h 322) 9))) (nI i167).toNatClampNeg = (rf_wr (h 333) (rf_wh (h 323) (h 328) place) (rf_nat ((h 322) 9))) i167 from by rw [nI_clamp (by omega)]) ?_
                                  refine am_top (show ((rf_wr (h 333) (rf_wh (h 323) (h 328) place) (rf_nat ((h 322) 9))) i167) = (rf_wh (h 323) (h 328) place i167) from (rf_wr_in _ (by omega))) ?_
                                  refine am_iload (pc := 183) C dX12_matches_183 rfl ?_
                                  refine am_iconst (pc := 185) (v := -1) C dX12_matches_185 rfl ?_
                                  refine am_ixor (pc := 186) C dX12_matches_186 ?_
                                  refine am_iand (pc := 187) C dX12_matches_187 ?_
                                  refine am_iload (pc := 188) C dX12_matches_188 rfl ?_
                                  refine am_callSi (Y := mX12_has) (pc := 190) (st := []) (As := [.int ((rf_wh (h 323) (h 328) place i167) &&& ((nI (rf_gn (rf_wh (h 323) (h 328) place) (rf_S (h 323)) (rf_nat ((h 322) 9)) i167)) ^^^ (-1))), .int (nI (rf_pk (rf_wh (h 323) (h 328) place) (rf_S (h 323)) (rf_nat ((h 322) 9)) i167 (rf_gn (rf_wh (h 323) (h 328) place) (rf_S (h 323)) (rf_nat ((h 322) 9)) i167)))]) (x := (am_b (am_bt ((rf_wh (h 323) (h 328) place i167) &&& ((nI (rf_gn (rf_wh (h 323) (h 328) place) (rf_S (h 323)) (rf_nat ((h 322) 9)) i167)) ^^^ (-1))) (rf_pk (rf_wh (h 323) (h 328) place) (rf_S (h 323)) (rf_nat ((h 322) 9)) i167 (rf_gn (rf_wh (h 323) (h 328) place) (rf_S (h 323)) (rf_nat ((h 322) 9)) i167))))) (h2 := (am_row (am_row (am_row h 333 (rf_wr (h 333) (rf_wh (h 323) (h 328) place) (rf_nat ((h 322) 9)))) 334 (rf_m3 (rf_wh (h 323) (h 328) place) (rf_S (h 323)) (rf_nat ((h 322) 9)) (rf_m1 (h 334) (rf_nat ((h 322) 9)) (2 ^ rf_S (h 323))) (rf_nat ((h 322) 9)))) 322 (rf_uses (h 322)))) C dX12_matches_190 k12_81 v_X12_has rfl rfl (by decide) (Nat.zero_le _) (Nat.zero_le _) (Nat.le_of_ble_eq_true rfl) (c_X12_has hR ((rf_wh (h 323) (h 328) place i167) &&& ((nI (rf_gn (rf_wh (h 323) (h 328) place) (rf_S (h 323)) (rf_nat ((h 322) 9)) i167)) ^^^ (-1))) (rf_pk (rf_wh (h 323) (h 328) place) (rf_S (h 323)) (rf_nat ((h 322) 9)) i167 (rf_gn (rf_wh (h 323) (h 328) place) (rf_S (h 323)) (rf_nat ((h 322) 9)) i167)) (show (rf_pk (rf_wh (h 323) (h 328) place) (rf_S (h 323)) (rf_nat ((h 322) 9)) i167 (rf_gn (rf_wh (h 323) (h 328) place) (rf_S (h 323)) (rf_nat ((h 322) 9)) i167)) < 32 from by omega)) ?_
                                  refine am_if_eqB (pc := 193) (tgt := 219) C dX12_matches_193 (by decide) (fun q193 => ?_) (fun q193 => ?_)
                                  · skip
                                    exact absurd (q193.symm.trans hpk1.1) Bool.false_ne_true
                                  · skip
                                    refine am_aload_n (pc := 196) C dX12_matches_196 rfl ?_
                                    refine am_getR (pc := 197) (j := 334) C dX12_matches_197 f12_53 bn_322 sh_322 (rf_322_21 hR) ?_
                                    refine am_iload (pc := 200) C dX12_matches_200 rfl ?_
                                    refine am_iconstN (pc := 202) (k := 1) C dX12_matches_202 ?_
                                    refine am_iaddN (pc := 203) C dX12_matches_203 ?_
                                    refine am_bipush (pc := 204) (v := nI 10) C dX12_matches_204 (by decide) ?_
                                    refine am_ishl (pc := 206) C dX12_matches_206 ?_
                                    refine am_iload (pc := 207) C dX12_matches_207 rfl ?_
                                    refine am_ior (pc := 209) C dX12_matches_209 ?_
                                    refine am_iconstN (pc := 210) (k := 1) C dX12_matches_210 ?_
                                    refine am_iload (pc := 211) C dX12_matches_211 rfl ?_
                                    refine am_ishl (pc := 213) C dX12_matches_213 ?_
                                    refine am_ior (pc := 214) C dX12_matches_214 ?_
                                    refine am_top (show ((((nI (i167 + 1)) <<< ((nI 10) &&& 31)) ||| (nI (rf_gn (rf_wh (h 323) (h 328) place) (rf_S (h 323)) (rf_nat ((h 322) 9)) i167))) ||| ((nI 1) <<< ((nI (rf_pk (rf_wh (h 323) (h 328) place) (rf_S (h 323)) (rf_nat ((h 322) 9)) i167 (rf_gn (rf_wh (h 323) (h 328) place) (rf_S (h 323)) (rf_nat ((h 322) 9)) i167))) &&& 31))) = (nI ((i167 + 1) * 1024 + rf_ws (rf_gn (rf_wh (h 323) (h 328) place) (rf_S (h 323)) (rf_nat ((h 322) 9)) i167) (rf_pk (rf_wh (h 323) (h 328) place) (rf_S (h 323)) (rf_nat ((h 322) 9)) i167 (rf_gn (rf_wh (h 323) (h 328) place) (rf_S (h 323)) (rf_nat ((h 322) 9)) i167)))) from (rf_ix2 (by omega) (by omega))) ?_
                                    refine am_iaload (pc := 215) C dX12_matches_215 bn_334 sh_334 (vp_in_nI (by omega) (by decide)) ?_
                                    refine am_top (show (rf_m3 (rf_wh (h 323) (h 328) place) (rf_S (h 323)) (rf_nat ((h 322) 9)) (rf_m1 (h 334) (rf_nat ((h 322) 9)) (2 ^ rf_S (h 323))) (rf_nat ((h 322) 9))) (nI ((i167 + 1) * 1024 + rf_ws (rf_gn (rf_wh (h 323) (h 328) place) (rf_S (h 323)) (rf_nat ((h 322) 9)) i167) (rf_pk (rf_wh (h 323) (h 328) place) (rf_S (h 323)) (rf_nat ((h 322) 9)) i167 (rf_gn (rf_wh (h 323) (h 328) place) (rf_S (h 323)) (rf_nat ((h 322) 9)) i167)))).toNatClampNeg = (rf_m3 (rf_wh (h 323) (h 328) place) (rf_S (h 323)) (rf_nat ((h 322) 9)) (rf_m1 (h 334) (rf_nat ((h 322) 9)) (2 ^ rf_S (h 323))) (rf_nat ((h 322) 9))) ((i167 + 1) * 1024 + rf_ws (rf_gn (rf_wh (h 323) (h 328) place) (rf_S (h 323)) (rf_nat ((h 322) 9)) i167) (rf_pk (rf_wh (h 323) (h 328) place) (rf_S (h 323)) (rf_nat ((h 322) 9)) i167 (rf_gn (rf_wh (h 323) (h 328) place) (rf_S (h 323)) (rf_nat ((h 322) 9)) i167))) from by rw [nI_clamp (by omega)]) ?_
                                    refine am_top (show ((rf_m3 (rf_wh (h 323) (h 328) place) (rf_S (h 323)) (rf_nat ((h 322) 9)) (rf_m1 (h 334) (rf_nat ((h 322) 9)) (2 ^ rf_S (h 323))) (rf_nat ((h 322) 9))) ((i167 + 1) * 1024 + rf_ws (rf_gn (rf_wh (h 323) (h 328) place) (rf_S (h 323)) (rf_nat ((h 322) 9)) i167) (rf_pk (rf_wh (h 323) (h 328) place) (rf_S (h 323)) (rf_nat ((h 322) 9)) i167 (rf_gn (rf_wh (h 323) (h 328) place) (rf_S (h 323)) (rf_nat ((h 322) 9)) i167)))) = (rf_ways (rf_wh (h 323) (h 328) place) (rf_S (h 323)) (rf_nat ((h 322) 9)) ((rf_nat ((h 322) 9)) - (i167 + 1)) (rf_ws (rf_gn (rf_wh (h 323) (h 328) place) (rf_S (h 323)) (rf_nat ((h 322) 9)) i167) (rf_pk (rf_wh (h 323) (h 328) place) (rf_S (h 323)) (rf_nat ((h 322) 9)) i167 (rf_gn (rf_wh (h 323) (h 328) place) (rf_S (h 323)) (rf_nat ((h 322) 9)) i167)))) from (rf_m3_at hm3 (by omega) (by omega) (rf_ws_lt (by omega) hg9.1 hpk0))) ?_
                                    refine am_if_ne (pc := 216) (tgt := 225) C dX12_matches_216 (by decide) (fun q216 => ?_) (fun q216 => ?_)
                                    · skip
                                      refine am_iload (pc := 225) C dX12_matches_225 rfl ?_
                                      refine am_iconstN (pc := 227) (k := 1) C dX12_matches_227 ?_
                                      refine am_iload (pc := 228) C dX12_matches_228 rfl ?_
                                      refine am_ishl (pc := 230) C dX12_matches_230 ?_
                                      refine am_ior (pc := 231) C dX12_matches_231 ?_
                                      refine am_top (show ((nI (rf_gn (rf_wh (h 323) (h 328) place) (rf_S (h 323)) (rf_nat ((h 322) 9)) i167)) ||| ((nI 1) <<< ((nI (rf_pk (rf_wh (h 323) (h 328) place) (rf_S (h 323)) (rf_nat ((h 322) 9)) i167 (rf_gn (rf_wh (h 323) (h 328) place) (rf_S (h 323)) (rf_nat ((h 322) 9)) i167))) &&& 31))) = (nI (rf_ws (rf_gn (rf_wh (h 323) (h 328) place) (rf_S (h 323)) (rf_nat ((h 322) 9)) i167) (rf_pk (rf_wh (h 323) (h 328) place) (rf_S (h 323)) (rf_nat ((h 322) 9)) i167 (rf_gn (rf_wh (h 323) (h 328) place) (rf_S (h 323)) (rf_nat ((h 322) 9)) i167)))) from (rf_ws_n (k := 10) (by decide) (by omega) (by omega)).1) ?_
                                      refine am_istore (pc := 232) (ls' := [(0, .ref 322), (1, .int place), (2, .int (nI (rf_nat k))), (3, .int (am_b (rf_mis (h 323) (h 328) (rf_nat ((h 322) 9)) k (rf_nat ((h 322) 9))))), (4, .int (nI (rf_ws (rf_gn (rf_wh (h 323) (h 328) place) (rf_S (h 323)) (rf_nat ((h 322) 9)) i167) (rf_pk (rf_wh (h 323) (h 328) place) (rf_S (h 323)) (rf_nat ((h 322) 9)) i167 (rf_gn (rf_wh (h 323) (h 328) place) (rf_S (h 323)) (rf_nat ((h 322) 9)) i167))))), (5, .int (nI (rf_pk (rf_wh (h 323) (h 328) place) (rf_S (h 323)) (rf_nat ((h 322) 9)) i167 (rf_gn (rf_wh (h 323) (h 328) place) (rf_S (h 323)) (rf_nat ((h 322) 9)) i167)))), (6, .int (nI i167))]) C dX12_matches_232 (by decide) rfl ?_
                                      refine am_iincN (pc := 234) (ls' := [(0, .ref 322), (1, .int place), (2, .int (nI (rf_nat k))), (3, .int (am_b (rf_mis (h 323) (h 328) (rf_nat ((h 322) 9)) k (rf_nat ((h 322) 9))))), (4, .int (nI (rf_ws (rf_gn (rf_wh (h 323) (h 328) place) (rf_S (h 323)) (rf_nat ((h 322) 9)) i167) (rf_pk (rf_wh (h 323) (h 328) place) (rf_S (h 323)) (rf_nat ((h 322) 9)) i167 (rf_gn (rf_wh (h 323) (h 328) place) (rf_S (h 323)) (rf_nat ((h 322) 9)) i167))))), (5, .int (nI (rf_pk (rf_wh (h 323) (h 328) place) (rf_S (h 323)) (rf_nat ((h 322) 9)) i167 (rf_gn (rf_wh (h 323) (h 328) place) (rf_S (h 323)) (rf_nat ((h 322) 9)) i167)))), (6, .int (nI (i167 + 1)))]) C dX12_matches_234 rfl (am_up1 _) (by decide) rfl ?_
                                      refine am_goto (pc := 237) (tgt := 167) C dX12_matches_237 (by decide) ?_
                                      refine am_lsv (ls' := [(0, .ref 322), (1, .int place), (2, .int (nI (rf_nat k))), (3, .int (am_b (rf_mis (h 323) (h 328) (rf_nat ((h 322) 9)) k (rf_nat ((h 322) 9))))), (4, .int (nI (rf_gn (rf_wh (h 323) (h 328) place) (rf_S (h 323)) (rf_nat ((h 322) 9)) (i167 + 1)))), (5, .int (nI (rf_pk (rf_wh (h 323) (h 328) place) (rf_S (h 323)) (rf_nat ((h 322) 9)) i167 (rf_gn (rf_wh (h 323) (h 328) place) (rf_S (h 323)) (rf_nat ((h 322) 9)) i167)))), (6, .int (nI (i167 + 1)))]) (congrArg (fun z9 : Int32 => ([(0, .ref 322), (1, .int place), (2, .int (nI (rf_nat k))), (3, .int (am_b (rf_mis (h 323) (h 328) (rf_nat ((h 322) 9)) k (rf_nat ((h 322) 9))))), (4, Value.int z9), (5, .int (nI (rf_pk (rf_wh (h 323) (h 328) place) (rf_S (h 323)) (rf_nat ((h 322) 9)) i167 (rf_gn (rf_wh (h 323) (h 328) place) (rf_S (h 323)) (rf_nat ((h 322) 9)) i167)))), (6, .int (nI (i167 + 1)))] : List (Nat × Value))) (show (nI (rf_ws (rf_gn (rf_wh (h 323) (h 328) place) (rf_S (h 323)) (rf_nat ((h 322) 9)) i167) (rf_pk (rf_wh (h 323) (h 328) place) (rf_S (h 323)) (rf_nat ((h 322) 9)) i167 (rf_gn (rf_wh (h 323) (h 328) place) (rf_S (h 323)) (rf_nat ((h 322) 9)) i167)))) = (nI (rf_gn (rf_wh (h 323) (h 328) place) (rf_S (h 323)) (rf_nat ((h 322) 9)) (i167 + 1))) from rfl)) ?_
                                      refine am_lsv (ls' := [(0, .ref 322), (1, .int place), (2, .int (nI (rf_nat k))), (3, .int (am_b (rf_mis (h 323) (h 328) (rf_nat ((h 322) 9)) k (rf_nat ((h 322) 9))))), (4, .int (nI (rf_gn (rf_wh (h 323) (h 328) place) (rf_S (h 323)) (rf_nat ((h 322) 9)) (i167 + 1)))), (5, .int (am_oi (rf_lst (rf_wh (h 323) (h 328) place) (rf_S (h 323)) (rf_nat ((h 322) 9)) (i167 + 1)))), (6, .int (nI (i167 + 1)))]) (congrArg (fun z9 : Int32 => ([(0, .ref 322), (1, .int place), (2, .int (nI (rf_nat k))), (3, .int (am_b (rf_mis (h 323) (h 328) (rf_nat ((h 322) 9)) k (rf_nat ((h 322) 9))))), (4, .int (nI (rf_gn (rf_wh (h 323) (h 328) place) (rf_S (h 323)) (rf_nat ((h 322) 9)) (i167 + 1)))), (5, Value.int z9), (6, .int (nI (i167 + 1)))] : List (Nat × Value))) (show (nI (rf_pk (rf_wh (h 323) (h 328) place) (rf_S (h 323)) (rf_nat ((h 322) 9)) i167 (rf_gn (rf_wh (h 323) (h 328) place) (rf_S (h 323)) (rf_nat ((h 322) 9)) i167))) = (am_oi (rf_lst (rf_wh (h 323) (h 328) place) (rf_S (h 323)) (rf_nat ((h 322) 9)) (i167 + 1))) from (am_oi_s _).symm)) ?_
                                      exact ih167 (i167 + 1) (by omega) 
                                    · skip
                                      exact absurd q216 hpk1.2
                                | succ j176 ih176 =>
                                  intro i176 hi176 
                                  have hl176 : i176 < (rf_pk (rf_wh (h 323) (h 328) place) (rf_S (h 323)) (rf_nat ((h 322) 9)) i167 (rf_gn (rf_wh (h 323) (h 328) place) (rf_S (h 323)) (rf_nat ((h 322) 9)) i167)) := by omega
                                  have hws9 : rf_ws (rf_gn (rf_wh (h 323) (h 328) place) (rf_S (h 323)) (rf_nat ((h 322) 9)) i167) i176 < 2 ^ 10 := rf_ws_lt (by decide) (by omega) (by omega)
                                  refine am_aload_n (pc := 176) C dX12_matches_176 rfl ?_
                                  refine am_getR (pc := 177) (j := 333) C dX12_matches_177 f12_50 bn_322 sh_322 (rf_322_20 hR) ?_
                                  refine am_iload (pc := 180) C dX12_matches_180 rfl ?_
                                  refine am_iaload (pc := 182) C dX12_matches_182 bn_333 sh_333 (vp_in_nI (by omega) (by decide)) ?_
                                  refine am_top (show (rf_wr (h 333) (rf_wh (h 323) (h 328) place) (rf_nat ((h 322) 9))) (nI i167).toNatClampNeg = (rf_wr (h 333) (rf_wh (h 323) (h 328) place) (rf_nat ((h 322) 9))) i167 from by rw [nI_clamp (by omega)]) ?_
                                  refine am_top (show ((rf_wr (h 333) (rf_wh (h 323) (h 328) place) (rf_nat ((h 322) 9))) i167) = (rf_wh (h 323) (h 328) place i167) from (rf_wr_in _ (by omega))) ?_
                                  refine am_iload (pc := 183) C dX12_matches_183 rfl ?_
                                  refine am_iconst (pc := 185) (v := -1) C dX12_matches_185 rfl ?_
                                  refine am_ixor (pc := 186) C dX12_matches_186 ?_
                                  refine am_iand (pc := 187) C dX12_matches_187 ?_
                                  refine am_iload (pc := 188) C dX12_matches_188 rfl ?_
                                  refine am_callSi (Y := mX12_has) (pc := 190) (st := []) (As := [.int ((rf_wh (h 323) (h 328) place i167) &&& ((nI (rf_gn (rf_wh (h 323) (h 328) place) (rf_S (h 323)) (rf_nat ((h 322) 9)) i167)) ^^^ (-1))), .int (nI i176)]) (x := (am_b (am_bt ((rf_wh (h 323) (h 328) place i167) &&& ((nI (rf_gn (rf_wh (h 323) (h 328) place) (rf_S (h 323)) (rf_nat ((h 322) 9)) i167)) ^^^ (-1))) i176))) (h2 := (am_row (am_row (am_row h 333 (rf_wr (h 333) (rf_wh (h 323) (h 328) place) (rf_nat ((h 322) 9)))) 334 (rf_m3 (rf_wh (h 323) (h 328) place) (rf_S (h 323)) (rf_nat ((h 322) 9)) (rf_m1 (h 334) (rf_nat ((h 322) 9)) (2 ^ rf_S (h 323))) (rf_nat ((h 322) 9)))) 322 (rf_uses (h 322)))) C dX12_matches_190 k12_81 v_X12_has rfl rfl (by decide) (Nat.zero_le _) (Nat.zero_le _) (Nat.le_of_ble_eq_true rfl) (c_X12_has hR ((rf_wh (h 323) (h 328) place i167) &&& ((nI (rf_gn (rf_wh (h 323) (h 328) place) (rf_S (h 323)) (rf_nat ((h 322) 9)) i167)) ^^^ (-1))) i176 (show i176 < 32 from by omega)) ?_
                                  refine am_if_eqB (pc := 193) (tgt := 219) C dX12_matches_193 (by decide) (fun q193 => ?_) (fun q193 => ?_)
                                  · skip
                                    refine am_iincN (pc := 219) (ls' := [(0, .ref 322), (1, .int place), (2, .int (nI (rf_nat k))), (3, .int (am_b (rf_mis (h 323) (h 328) (rf_nat ((h 322) 9)) k (rf_nat ((h 322) 9))))), (4, .int (nI (rf_gn (rf_wh (h 323) (h 328) place) (rf_S (h 323)) (rf_nat ((h 322) 9)) i167))), (5, .int (nI (i176 + 1))), (6, .int (nI i167))]) C dX12_matches_219 rfl (am_up1 _) (by decide) rfl ?_
                                    refine am_goto (pc := 222) (tgt := 176) C dX12_matches_222 (by decide) ?_
                                    exact ih176 (i176 + 1) (by omega) 
                                  · skip
                                    refine am_aload_n (pc := 196) C dX12_matches_196 rfl ?_
                                    refine am_getR (pc := 197) (j := 334) C dX12_matches_197 f12_53 bn_322 sh_322 (rf_322_21 hR) ?_
                                    refine am_iload (pc := 200) C dX12_matches_200 rfl ?_
                                    refine am_iconstN (pc := 202) (k := 1) C dX12_matches_202 ?_
                                    refine am_iaddN (pc := 203) C dX12_matches_203 ?_
                                    refine am_bipush (pc := 204) (v := nI 10) C dX12_matches_204 (by decide) ?_
                                    refine am_ishl (pc := 206) C dX12_matches_206 ?_
                                    refine am_iload (pc := 207) C dX12_matches_207 rfl ?_
                                    refine am_ior (pc := 209) C dX12_matches_209 ?_
                                    refine am_iconstN (pc := 210) (k := 1) C dX12_matches_210 ?_
                                    refine am_iload (pc := 211) C dX12_matches_211 rfl ?_
                                    refine am_ishl (pc := 213) C dX12_matches_213 ?_
                                    refine am_ior (pc := 214) C dX12_matches_214 ?_
                                    refine am_top (show ((((nI (i167 + 1)) <<< ((nI 10) &&& 31)) ||| (nI (rf_gn (rf_wh (h 323) (h 328) place) (rf_S (h 323)) (rf_nat ((h 322) 9)) i167))) ||| ((nI 1) <<< ((nI i176) &&& 31))) = (nI ((i167 + 1) * 1024 + rf_ws (rf_gn (rf_wh (h 323) (h 328) place) (rf_S (h 323)) (rf_nat ((h 322) 9)) i167) i176)) from (rf_ix2 (by omega) (by omega))) ?_
                                    refine am_iaload (pc := 215) C dX12_matches_215 bn_334 sh_334 (vp_in_nI (by omega) (by decide)) ?_
                                    refine am_top (show (rf_m3 (rf_wh (h 323) (h 328) place) (rf_S (h 323)) (rf_nat ((h 322) 9)) (rf_m1 (h 334) (rf_nat ((h 322) 9)) (2 ^ rf_S (h 323))) (rf_nat ((h 322) 9))) (nI ((i167 + 1) * 1024 + rf_ws (rf_gn (rf_wh (h 323) (h 328) place) (rf_S (h 323)) (rf_nat ((h 322) 9)) i167) i176)).toNatClampNeg = (rf_m3 (rf_wh (h 323) (h 328) place) (rf_S (h 323)) (rf_nat ((h 322) 9)) (rf_m1 (h 334) (rf_nat ((h 322) 9)) (2 ^ rf_S (h 323))) (rf_nat ((h 322) 9))) ((i167 + 1) * 1024 + rf_ws (rf_gn (rf_wh (h 323) (h 328) place) (rf_S (h 323)) (rf_nat ((h 322) 9)) i167) i176) from by rw [nI_clamp (by omega)]) ?_
                                    refine am_top (show ((rf_m3 (rf_wh (h 323) (h 328) place) (rf_S (h 323)) (rf_nat ((h 322) 9)) (rf_m1 (h 334) (rf_nat ((h 322) 9)) (2 ^ rf_S (h 323))) (rf_nat ((h 322) 9))) ((i167 + 1) * 1024 + rf_ws (rf_gn (rf_wh (h 323) (h 328) place) (rf_S (h 323)) (rf_nat ((h 322) 9)) i167) i176)) = (rf_ways (rf_wh (h 323) (h 328) place) (rf_S (h 323)) (rf_nat ((h 322) 9)) ((rf_nat ((h 322) 9)) - (i167 + 1)) (rf_ws (rf_gn (rf_wh (h 323) (h 328) place) (rf_S (h 323)) (rf_nat ((h 322) 9)) i167) i176)) from (rf_m3_at hm3 (by omega) (by omega) (rf_ws_lt (by omega) hg9.1 (by omega)))) ?_
                                    refine am_if_ne (pc := 216) (tgt := 225) C dX12_matches_216 (by decide) (fun q216 => ?_) (fun q216 => ?_)
                                    · skip
                                      exact absurd (show rf_pkp _ _ _ _ _ _ = true by rw [rf_pkp, q193, decide_eq_true q216]; rfl) (by rw [hpk.2.2 i176 hl176]; exact Bool.false_ne_true)
                                    · skip
                                      refine am_iincN (pc := 219) (ls' := [(0, .ref 322), (1, .int place), (2, .int (nI (rf_nat k))), (3, .int (am_b (rf_mis (h 323) (h 328) (rf_nat ((h 322) 9)) k (rf_nat ((h 322) 9))))), (4, .int (nI (rf_gn (rf_wh (h 323) (h 328) place) (rf_S (h 323)) (rf_nat ((h 322) 9)) i167))), (5, .int (nI (i176 + 1))), (6, .int (nI i167))]) C dX12_matches_219 rfl (am_up1 _) (by decide) rfl ?_
                                      refine am_goto (pc := 222) (tgt := 176) C dX12_matches_222 (by decide) ?_
                                      exact ih176 (i176 + 1) (by omega) 
                              exact L176 (rf_pk (rf_wh (h 323) (h 328) place) (rf_S (h 323)) (rf_nat ((h 322) 9)) i167 (rf_gn (rf_wh (h 323) (h 328) place) (rf_S (h 323)) (rf_nat ((h 322) 9)) i167)) 0 (by omega) 
                        refine am_lsv (ls' := [(0, .ref 322), (1, .int place), (2, .int (nI (rf_nat k))), (3, .int (am_b (rf_mis (h 323) (h 328) (rf_nat ((h 322) 9)) k (rf_nat ((h 322) 9))))), (4, .int (nI (rf_gn (rf_wh (h 323) (h 328) place) (rf_S (h 323)) (rf_nat ((h 322) 9)) 0))), (5, .int (-1)), (6, .int (nI 0))]) (congrArg (fun z9 : Int32 => ([(0, .ref 322), (1, .int place), (2, .int (nI (rf_nat k))), (3, .int (am_b (rf_mis (h 323) (h 328) (rf_nat ((h 322) 9)) k (rf_nat ((h 322) 9))))), (4, Value.int z9), (5, .int (-1)), (6, .int (nI 0))] : List (Nat × Value))) (show (nI 0) = (nI (rf_gn (rf_wh (h 323) (h 328) place) (rf_S (h 323)) (rf_nat ((h 322) 9)) 0)) from (by first | exact am_oi_0.symm | rfl))) ?_
                        refine am_lsv (ls' := [(0, .ref 322), (1, .int place), (2, .int (nI (rf_nat k))), (3, .int (am_b (rf_mis (h 323) (h 328) (rf_nat ((h 322) 9)) k (rf_nat ((h 322) 9))))), (4, .int (nI (rf_gn (rf_wh (h 323) (h 328) place) (rf_S (h 323)) (rf_nat ((h 322) 9)) 0))), (5, .int (am_oi (rf_lst (rf_wh (h 323) (h 328) place) (rf_S (h 323)) (rf_nat ((h 322) 9)) 0))), (6, .int (nI 0))]) (congrArg (fun z9 : Int32 => ([(0, .ref 322), (1, .int place), (2, .int (nI (rf_nat k))), (3, .int (am_b (rf_mis (h 323) (h 328) (rf_nat ((h 322) 9)) k (rf_nat ((h 322) 9))))), (4, .int (nI (rf_gn (rf_wh (h 323) (h 328) place) (rf_S (h 323)) (rf_nat ((h 322) 9)) 0))), (5, Value.int z9), (6, .int (nI 0))] : List (Nat × Value))) (show (-1) = (am_oi (rf_lst (rf_wh (h 323) (h 328) place) (rf_S (h 323)) (rf_nat ((h 322) 9)) 0)) from (by first | exact am_oi_0.symm | rfl))) ?_
                        exact L167 (rf_nat k + 1) 0 (by omega) 
                      · skip
                        refine am_iload_n (pc := 142) C dX12_matches_142 rfl ?_
                        refine am_iconst (pc := 143) (v := -1) C dX12_matches_143 rfl ?_
                        refine am_icmp_ne (pc := 144) (tgt := 156) C dX12_matches_144 (by decide) (fun q144 => ?_) (fun q144 => ?_)
                        · skip
                          refine am_iconst (pc := 156) (v := -1) C dX12_matches_156 rfl ?_
                          have A9 : rf_a_matches (h 323) (h 328) (h 322) place k = (-1) := (by rw [rf_a_matches, if_neg q130, if_pos q139])
                          exact am_iretij (G := (am_row (am_row h 333 (rf_wr (h 333) (rf_wh (h 323) (h 328) place) (rf_nat ((h 322) 9)))) 334 (rf_m3 (rf_wh (h 323) (h 328) place) (rf_S (h 323)) (rf_nat ((h 322) 9)) (rf_m1 (h 334) (rf_nat ((h 322) 9)) (2 ^ rf_S (h 323))) (rf_nat ((h 322) 9))))) T dX12_matches_157 rfl (Nat.le_refl _) (Nat.le_refl _) (by rw [K9, rf_ga_0]; exact A9.symm) rfl (by rw [K9]; exact (congrArg (am_row _ 322) (rf_upd_id (rf_upd_ne (by decide)))).symm)
                        · skip
                          exact absurd q144 q130
                  · skip
                    exact Bool.noConfusion q114
                · skip
                  refine am_iconstN (pc := 105) (k := 1) C dX12_matches_105 ?_
                  refine am_goto (pc := 106) (tgt := 110) C dX12_matches_106 (by decide) ?_
                  refine am_top (show (nI 1) = (am_b true) from rfl) ?_
                  refine am_iconstN (pc := 110) (k := 2) C dX12_matches_110 ?_
                  refine am_callVi (Y := mX12_throwsIf) (pc := 111) (st := []) (As := [.int (am_b true), .int (nI 2)]) (x := (am_b true)) (h2 := (am_row (am_row (am_row (am_row h 333 (h 333)) 334 (h 334)) 322 (rf_uses (h 322))) 322 (bif true then upd (rf_uses (h 322)) 0 (nI 2) else (rf_uses (h 322))))) C dX12_matches_111 k12_269 v_X12_throwsIf rfl rfl bn_322 sh_322 ⟨by decide, rfl⟩ (by decide) (Nat.zero_le _) (Nat.zero_le _) (Nat.le_of_ble_eq_true rfl) (c_X12_throwsIf hR true (nI 2)) ?_
                  refine am_hp (show (am_row (am_row (am_row (am_row h 333 (h 333)) 334 (h 334)) 322 (rf_uses (h 322))) 322 (bif true then upd (rf_uses (h 322)) 0 (nI 2) else (rf_uses (h 322)))) = (am_row (am_row (am_row h 333 (h 333)) 334 (h 334)) 322 (bif true then upd (rf_uses (h 322)) 0 (nI 2) else (rf_uses (h 322)))) from am_row_s0) ?_
                  refine am_hp (show (am_row (am_row (am_row h 333 (h 333)) 334 (h 334)) 322 (bif true then upd (rf_uses (h 322)) 0 (nI 2) else (rf_uses (h 322)))) = (am_row (am_row (am_row h 333 (h 333)) 334 (h 334)) 322 (upd (rf_uses (h 322)) 0 (nI 2))) from rfl) ?_
                  refine am_if_eqB (pc := 114) (tgt := 119) C dX12_matches_114 (by decide) (fun q114 => ?_) (fun q114 => ?_)
                  · skip
                    exact Bool.noConfusion q114
                  · skip
                    have K9 : rf_c_matches (h 323) (h 328) (h 322) place k = 2 := (rf_cb_nf q12).trans (rf_cb_nt (rf_mis_f q102 (by omega)))
                    refine am_iconstN (pc := 117) (k := 0) C dX12_matches_117 ?_
                    exact am_iretij (G := (am_row (am_row h 333 (h 333)) 334 (h 334))) T dX12_matches_118 rfl (Nat.le_refl _) (Nat.le_refl _) (by rw [K9]; rfl) rfl (by rw [K9]; exact rfl)
              · skip
                exact absurd q67 (by omega)
            | succ j61 ih61 =>
              intro i61 hi61 
              have hl61 : i61 < (rf_nat ((h 322) 9)) := by omega
              refine am_iload (pc := 61) C dX12_matches_61 rfl ?_
              refine am_aload_n (pc := 63) C dX12_matches_63 rfl ?_
              refine am_getI (pc := 64) C dX12_matches_64 f12_102 bn_322 sh_322 ?_
              refine am_top (show ((rf_uses (h 322)) 11) = (nI (rf_nat ((h 322) 9))) from huE) ?_
              refine am_icmp_geN (pc := 67) (tgt := 100) C dX12_matches_67 (by decide) (by omega) (by omega) (fun q67 => ?_) (fun q67 => ?_)
              · skip
                exact absurd q67 (by omega)
              · skip
                refine am_iload_n (pc := 70) C dX12_matches_70 rfl ?_
                refine am_if_eqB (pc := 71) (tgt := 100) C dX12_matches_71 (by decide) (fun q71 => ?_) (fun q71 => ?_)
                · skip
                  refine am_aload_n (pc := 100) C dX12_matches_100 rfl ?_
                  refine am_iload_n (pc := 101) C dX12_matches_101 rfl ?_
                  refine am_if_neB (pc := 102) (tgt := 109) C dX12_matches_102 (by decide) (fun q102 => ?_) (fun q102 => ?_)
                  · skip
                    exact Bool.noConfusion (q71.symm.trans q102)
                  · skip
                    refine am_iconstN (pc := 105) (k := 1) C dX12_matches_105 ?_
                    refine am_goto (pc := 106) (tgt := 110) C dX12_matches_106 (by decide) ?_
                    refine am_top (show (nI 1) = (am_b true) from rfl) ?_
                    refine am_iconstN (pc := 110) (k := 2) C dX12_matches_110 ?_
                    refine am_callVi (Y := mX12_throwsIf) (pc := 111) (st := []) (As := [.int (am_b true), .int (nI 2)]) (x := (am_b true)) (h2 := (am_row (am_row (am_row (am_row h 333 (h 333)) 334 (h 334)) 322 (rf_uses (h 322))) 322 (bif true then upd (rf_uses (h 322)) 0 (nI 2) else (rf_uses (h 322))))) C dX12_matches_111 k12_269 v_X12_throwsIf rfl rfl bn_322 sh_322 ⟨by decide, rfl⟩ (by decide) (Nat.zero_le _) (Nat.zero_le _) (Nat.le_of_ble_eq_true rfl) (c_X12_throwsIf hR true (nI 2)) ?_
                    refine am_hp (show (am_row (am_row (am_row (am_row h 333 (h 333)) 334 (h 334)) 322 (rf_uses (h 322))) 322 (bif true then upd (rf_uses (h 322)) 0 (nI 2) else (rf_uses (h 322)))) = (am_row (am_row (am_row h 333 (h 333)) 334 (h 334)) 322 (bif true then upd (rf_uses (h 322)) 0 (nI 2) else (rf_uses (h 322)))) from am_row_s0) ?_
                    refine am_hp (show (am_row (am_row (am_row h 333 (h 333)) 334 (h 334)) 322 (bif true then upd (rf_uses (h 322)) 0 (nI 2) else (rf_uses (h 322)))) = (am_row (am_row (am_row h 333 (h 333)) 334 (h 334)) 322 (upd (rf_uses (h 322)) 0 (nI 2))) from rfl) ?_
                    refine am_if_eqB (pc := 114) (tgt := 119) C dX12_matches_114 (by decide) (fun q114 => ?_) (fun q114 => ?_)
                    · skip
                      exact Bool.noConfusion q114
                    · skip
                      have K9 : rf_c_matches (h 323) (h 328) (h 322) place k = 2 := (rf_cb_nf q12).trans (rf_cb_nt (rf_mis_f q102 (by omega)))
                      refine am_iconstN (pc := 117) (k := 0) C dX12_matches_117 ?_
                      exact am_iretij (G := (am_row (am_row h 333 (h 333)) 334 (h 334))) T dX12_matches_118 rfl (Nat.le_refl _) (Nat.le_refl _) (by rw [K9]; rfl) rfl (by rw [K9]; exact rfl)
                · skip
                  refine am_aload_n (pc := 74) C dX12_matches_74 rfl ?_
                  refine am_aload_n (pc := 75) C dX12_matches_75 rfl ?_
                  refine am_getR (pc := 76) (j := 328) C dX12_matches_76 f12_29 bn_322 sh_322 (rf_322_8 hR) ?_
                  refine am_iload (pc := 79) C dX12_matches_79 rfl ?_
                  refine am_baload (pc := 81) C dX12_matches_81 bn_328 sh_328 (vp_in_nI (by omega) (by decide)) ?_
                  refine am_top (show (h 328) (nI i61).toNatClampNeg = (h 328) i61 from by rw [nI_clamp (by omega)]) ?_
                  refine am_callVi (Y := mX12_noMemory) (pc := 82) (st := []) (As := [.int ((h 328) i61)]) (x := (am_b (!rf_okN ((h 328) i61) (rf_M (h 323))))) (h2 := (am_row (am_row (am_row h 333 (h 333)) 334 (h 334)) 322 (rf_uses (h 322)))) C dX12_matches_82 k12_304 v_X12_noMemory rfl rfl bn_322 sh_322 ⟨by decide, rfl⟩ (by decide) (Nat.zero_le _) (Nat.zero_le _) (Nat.le_of_ble_eq_true rfl) (c_X12_noMemory hR ((h 328) i61) (show rf_Cn (h 323) from hV.1)) ?_
                  refine am_if_neB (pc := 85) (tgt := 92) C dX12_matches_85 (by decide) (fun q85 => ?_) (fun q85 => ?_)
                  · skip
                    refine am_iconstN (pc := 92) (k := 0) C dX12_matches_92 ?_
                    refine am_istore_n (pc := 93) (ls' := [(0, .ref 322), (1, .int place), (2, .int k), (3, .int (nI 0)), (4, .int (nI i61))]) C dX12_matches_93 (by decide) rfl ?_
                    refine am_iincN (pc := 94) (ls' := [(0, .ref 322), (1, .int place), (2, .int k), (3, .int (nI 0)), (4, .int (nI (i61 + 1)))]) C dX12_matches_94 rfl (am_up1 _) (by decide) rfl ?_
                    refine am_goto (pc := 97) (tgt := 61) C dX12_matches_97 (by decide) ?_
                    refine am_lsv (ls' := [(0, .ref 322), (1, .int place), (2, .int k), (3, .int (am_b (rf_mis (h 323) (h 328) (rf_nat ((h 322) 9)) k (i61 + 1)))), (4, .int (nI (i61 + 1)))]) (by rw [show (nI 0) = (am_b (rf_mis (h 323) (h 328) (rf_nat ((h 322) 9)) k (i61 + 1))) from (by rw [show rf_mis (h 323) (h 328) (rf_nat ((h 322) 9)) k (i61 + 1) = false from rf_mis_n q71 q85]; rfl)]) ?_
                    exact ih61 (i61 + 1) (by omega) 
                  · skip
                    refine am_iconstN (pc := 88) (k := 1) C dX12_matches_88 ?_
                    refine am_goto (pc := 89) (tgt := 93) C dX12_matches_89 (by decide) ?_
                    refine am_istore_n (pc := 93) (ls' := [(0, .ref 322), (1, .int place), (2, .int k), (3, .int (nI 1)), (4, .int (nI i61))]) C dX12_matches_93 (by decide) rfl ?_
                    refine am_iincN (pc := 94) (ls' := [(0, .ref 322), (1, .int place), (2, .int k), (3, .int (nI 1)), (4, .int (nI (i61 + 1)))]) C dX12_matches_94 rfl (am_up1 _) (by decide) rfl ?_
                    refine am_goto (pc := 97) (tgt := 61) C dX12_matches_97 (by decide) ?_
                    refine am_lsv (ls' := [(0, .ref 322), (1, .int place), (2, .int k), (3, .int (am_b (rf_mis (h 323) (h 328) (rf_nat ((h 322) 9)) k (i61 + 1)))), (4, .int (nI (i61 + 1)))]) (by rw [show (nI 1) = (am_b (rf_mis (h 323) (h 328) (rf_nat ((h 322) 9)) k (i61 + 1))) from (by rw [show rf_mis (h 323) (h 328) (rf_nat ((h 322) 9)) k (i61 + 1) = true from rf_mis_y q71 q85]; rfl)]) ?_
                    exact ih61 (i61 + 1) (by omega) 
          exact L61 (rf_nat ((h 322) 9)) 0 (by omega) 
    · skip
      exact Bool.noConfusion q24
  · skip
    refine am_iconstN (pc := 15) (k := 1) C dX12_matches_15 ?_
    refine am_goto (pc := 16) (tgt := 20) C dX12_matches_16 (by decide) ?_
    refine am_top (show (nI 1) = (am_b true) from rfl) ?_
    refine am_iconstN (pc := 20) (k := 1) C dX12_matches_20 ?_
    refine am_callVi (Y := mX12_throwsIf) (pc := 21) (st := []) (As := [.int (am_b true), .int (nI 1)]) (x := (am_b true)) (h2 := (am_row (am_row (am_row (am_row h 333 (h 333)) 334 (h 334)) 322 (rf_uses (h 322))) 322 (bif true then upd (rf_uses (h 322)) 0 (nI 1) else (rf_uses (h 322))))) C dX12_matches_21 k12_269 v_X12_throwsIf rfl rfl bn_322 sh_322 ⟨by decide, rfl⟩ (by decide) (Nat.zero_le _) (Nat.zero_le _) (Nat.le_of_ble_eq_true rfl) (c_X12_throwsIf hR true (nI 1)) ?_
    refine am_hp (show (am_row (am_row (am_row (am_row h 333 (h 333)) 334 (h 334)) 322 (rf_uses (h 322))) 322 (bif true then upd (rf_uses (h 322)) 0 (nI 1) else (rf_uses (h 322)))) = (am_row (am_row (am_row h 333 (h 333)) 334 (h 334)) 322 (bif true then upd (rf_uses (h 322)) 0 (nI 1) else (rf_uses (h 322)))) from am_row_s0) ?_
    refine am_hp (show (am_row (am_row (am_row h 333 (h 333)) 334 (h 334)) 322 (bif true then upd (rf_uses (h 322)) 0 (nI 1) else (rf_uses (h 322)))) = (am_row (am_row (am_row h 333 (h 333)) 334 (h 334)) 322 (upd (rf_uses (h 322)) 0 (nI 1))) from rfl) ?_
    refine am_if_eqB (pc := 24) (tgt := 29) C dX12_matches_24 (by decide) (fun q24 => ?_) (fun q24 => ?_)
    · skip
      exact Bool.noConfusion q24
    · skip
      refine am_iconstN (pc := 27) (k := 0) C dX12_matches_27 ?_
      have K9 : rf_c_matches (h 323) (h 328) (h 322) place k = 1 := (rf_cb_nt q12)
      exact am_iretij (G := (am_row (am_row h 333 (h 333)) 334 (h 334))) T dX12_matches_28 rfl (Nat.le_refl _) (Nat.le_refl _) (by rw [K9]; rfl) rfl (by rw [K9]; exact rfl)

