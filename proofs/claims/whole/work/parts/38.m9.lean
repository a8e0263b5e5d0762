set_option maxHeartbeats 400000 in
set_option maxRecDepth 100000 in
theorem c_X12_readPart {ad : Nat → Nat} {r : am_R} (hR : am_rs r) {h : am_H}  (hcr : rf_cr (h 322))  : am_CM mX12_readPart 8 0 0 [.ref 322] (am_VV ad) r h (am_po (some (.int (am_b ((rf_part (h 328) (h 322) (h 323)).1)))) r (am_row (am_row h 322 ((rf_part (h 328) (h 322) (h 323)).2.1)) 323 ((rf_part (h 328) (h 322) (h 323)).2.2))) := by
  refine am_CM.of (by decide +kernel) (Nat.le_of_ble_eq_true rfl) (fun X C T => ?_)
  show am_G X (am_VV ad) (0, 0) 0 [(0, .ref 322)] [] r h
  have hT := hcr.1
  have hl := rf_Tm_le (t := h 328) hT
  have hlc := hl.cr hcr
  have hn := rf_Tm_num (t := h 328) hl.1
  have hnc := hn.cr hlc
  obtain ⟨s1, s2, s3, s4, s5, s6, s7⟩ := rf_S_le (t := h 328) hT
  have hnb9 := rf_num_b (t := h 328) (o := (rf_oLe (h 328) (h 322))) (low := 0) (high := nI 999)
  refine am_aload_n (pc := 0) C dX12_readPart_0 rfl ?_
  refine am_callVv (Y := mX12_letters) (pc := 1) (st := []) (As := []) (h2 := (am_row h 322 (rf_oLe (h 328) (h 322)))) C dX12_readPart_1 k12_123 v_X12_letters rfl rfl bn_322 sh_322 ⟨by decide, rfl⟩ (by decide) (Nat.zero_le _) (Nat.zero_le _) (Nat.le_of_ble_eq_true rfl) (c_X12_letters hR (show rf_To (h 322) from hT)) ?_
  refine am_aload_n (pc := 4) C dX12_readPart_4 rfl ?_
  refine am_getI (pc := 5) C dX12_readPart_5 f12_99 bn_322 sh_322 ?_
  refine am_top (show ((rf_oLe (h 328) (h 322)) 10) = (nI (rf_SL (h 328) (h 322))) from rf_pb_10) ?_
  refine am_aload_n (pc := 8) C dX12_readPart_8 rfl ?_
  refine am_getI (pc := 9) C dX12_readPart_9 f12_108 bn_322 sh_322 ?_
  refine am_top (show ((rf_oLe (h 328) (h 322)) 12) = (nI (rf_SB (h 328) (h 322))) from rf_pb_12) ?_
  refine am_icmp_neN (pc := 12) (tgt := 34) C dX12_readPart_12 (by decide) (by omega) (by omega) (fun q12 => ?_) (fun q12 => ?_)
  · skip
    refine am_aload_n (pc := 34) C dX12_readPart_34 rfl ?_
    refine am_ldcs (pc := 35) (k := 2) (t := "soldier") C dX12_readPart_35 (by decide) (List.mem_of_getElem? (i := 49) rfl) ?_
    refine am_callVi (Y := mX12_isWord) (pc := 37) (st := []) (As := [.ref (am_SB + 2)]) (x := (am_b (rf_isW (h 328) (rf_oLe (h 328) (h 322)) 2))) (h2 := (am_row h 322 (rf_oLe (h 328) (h 322)))) C dX12_readPart_37 k12_126 v_X12_isWord rfl rfl bn_322 sh_322 ⟨by decide, rfl⟩ (by decide) (Nat.zero_le _) (Nat.zero_le _) (Nat.le_of_ble_eq_true rfl) (c_X12_isWord hR 2 (show rf_To (rf_oLe (h 328) (h 322)) from hl.1) (show rf_b (rf_oLe (h 328) (h 322)) ≤ rf_p (rf_oLe (h 328) (h 322)) from hl.2.2.2) (show 2 < am_TX.length from (by decide))) ?_
    refine am_if_eqB (pc := 40) (tgt := 47) C dX12_readPart_40 (by decide) (fun q40 => ?_) (fun q40 => ?_)
    · skip
      refine am_aload_n (pc := 47) C dX12_readPart_47 rfl ?_
      refine am_ldcs (pc := 48) (k := 16) (t := "side") C dX12_readPart_48 (by decide) (List.mem_of_getElem? (i := 61) rfl) ?_
      refine am_callVi (Y := mX12_isWord) (pc := 50) (st := []) (As := [.ref (am_SB + 16)]) (x := (am_b (rf_isW (h 328) (rf_oLe (h 328) (h 322)) 16))) (h2 := (am_row h 322 (rf_oLe (h 328) (h 322)))) C dX12_readPart_50 k12_126 v_X12_isWord rfl rfl bn_322 sh_322 ⟨by decide, rfl⟩ (by decide) (Nat.zero_le _) (Nat.zero_le _) (Nat.le_of_ble_eq_true rfl) (c_X12_isWord hR 16 (show rf_To (rf_oLe (h 328) (h 322)) from hl.1) (show rf_b (rf_oLe (h 328) (h 322)) ≤ rf_p (rf_oLe (h 328) (h 322)) from hl.2.2.2) (show 16 < am_TX.length from (by decide))) ?_
      refine am_if_eqB (pc := 53) (tgt := 60) C dX12_readPart_53 (by decide) (fun q53 => ?_) (fun q53 => ?_)
      · skip
        refine am_aload_n (pc := 60) C dX12_readPart_60 rfl ?_
        refine am_ldcs (pc := 61) (k := 17) (t := "place") C dX12_readPart_61 (by decide) (List.mem_of_getElem? (i := 62) rfl) ?_
        refine am_callVi (Y := mX12_isWord) (pc := 63) (st := []) (As := [.ref (am_SB + 17)]) (x := (am_b (rf_isW (h 328) (rf_oLe (h 328) (h 322)) 17))) (h2 := (am_row h 322 (rf_oLe (h 328) (h 322)))) C dX12_readPart_63 k12_126 v_X12_isWord rfl rfl bn_322 sh_322 ⟨by decide, rfl⟩ (by decide) (Nat.zero_le _) (Nat.zero_le _) (Nat.le_of_ble_eq_true rfl) (c_X12_isWord hR 17 (show rf_To (rf_oLe (h 328) (h 322)) from hl.1) (show rf_b (rf_oLe (h 328) (h 322)) ≤ rf_p (rf_oLe (h 328) (h 322)) from hl.2.2.2) (show 17 < am_TX.length from (by decide))) ?_
        refine am_if_eqB (pc := 66) (tgt := 73) C dX12_readPart_66 (by decide) (fun q66 => ?_) (fun q66 => ?_)
        · skip
          refine am_aload_n (pc := 73) C dX12_readPart_73 rfl ?_
          refine am_ldcs (pc := 74) (k := 18) (t := "hour") C dX12_readPart_74 (by decide) (List.mem_of_getElem? (i := 63) rfl) ?_
          refine am_callVi (Y := mX12_isWord) (pc := 76) (st := []) (As := [.ref (am_SB + 18)]) (x := (am_b (rf_isW (h 328) (rf_oLe (h 328) (h 322)) 18))) (h2 := (am_row h 322 (rf_oLe (h 328) (h 322)))) C dX12_readPart_76 k12_126 v_X12_isWord rfl rfl bn_322 sh_322 ⟨by decide, rfl⟩ (by decide) (Nat.zero_le _) (Nat.zero_le _) (Nat.le_of_ble_eq_true rfl) (c_X12_isWord hR 18 (show rf_To (rf_oLe (h 328) (h 322)) from hl.1) (show rf_b (rf_oLe (h 328) (h 322)) ≤ rf_p (rf_oLe (h 328) (h 322)) from hl.2.2.2) (show 18 < am_TX.length from (by decide))) ?_
          refine am_if_eqB (pc := 79) (tgt := 86) C dX12_readPart_79 (by decide) (fun q79 => ?_) (fun q79 => ?_)
          · skip
            refine am_aload_n (pc := 86) C dX12_readPart_86 rfl ?_
            refine am_ldcs (pc := 87) (k := 19) (t := "known") C dX12_readPart_87 (by decide) (List.mem_of_getElem? (i := 64) rfl) ?_
            refine am_callVi (Y := mX12_isWord) (pc := 89) (st := []) (As := [.ref (am_SB + 19)]) (x := (am_b (rf_isW (h 328) (rf_oLe (h 328) (h 322)) 19))) (h2 := (am_row h 322 (rf_oLe (h 328) (h 322)))) C dX12_readPart_89 k12_126 v_X12_isWord rfl rfl bn_322 sh_322 ⟨by decide, rfl⟩ (by decide) (Nat.zero_le _) (Nat.zero_le _) (Nat.le_of_ble_eq_true rfl) (c_X12_isWord hR 19 (show rf_To (rf_oLe (h 328) (h 322)) from hl.1) (show rf_b (rf_oLe (h 328) (h 322)) ≤ rf_p (rf_oLe (h 328) (h 322)) from hl.2.2.2) (show 19 < am_TX.length from (by decide))) ?_
            refine am_if_eqB (pc := 92) (tgt := 99) C dX12_readPart_92 (by decide) (fun q92 => ?_) (fun q92 => ?_)
            · skip
              refine am_aload_n (pc := 99) C dX12_readPart_99 rfl ?_
              refine am_ldcs (pc := 100) (k := 20) (t := "usable") C dX12_readPart_100 (by decide) (List.mem_of_getElem? (i := 65) rfl) ?_
              refine am_callVi (Y := mX12_isWord) (pc := 102) (st := []) (As := [.ref (am_SB + 20)]) (x := (am_b (rf_isW (h 328) (rf_oLe (h 328) (h 322)) 20))) (h2 := (am_row h 322 (rf_oLe (h 328) (h 322)))) C dX12_readPart_102 k12_126 v_X12_isWord rfl rfl bn_322 sh_322 ⟨by decide, rfl⟩ (by decide) (Nat.zero_le _) (Nat.zero_le _) (Nat.le_of_ble_eq_true rfl) (c_X12_isWord hR 20 (show rf_To (rf_oLe (h 328) (h 322)) from hl.1) (show rf_b (rf_oLe (h 328) (h 322)) ≤ rf_p (rf_oLe (h 328) (h 322)) from hl.2.2.2) (show 20 < am_TX.length from (by decide))) ?_
              refine am_if_eqB (pc := 105) (tgt := 112) C dX12_readPart_105 (by decide) (fun q105 => ?_) (fun q105 => ?_)
              · skip
                refine am_aload_n (pc := 112) C dX12_readPart_112 rfl ?_
                refine am_ldcs (pc := 113) (k := 21) (t := "foes") C dX12_readPart_113 (by decide) (List.mem_of_getElem? (i := 66) rfl) ?_
                refine am_callVi (Y := mX12_isWord) (pc := 115) (st := []) (As := [.ref (am_SB + 21)]) (x := (am_b (rf_isW (h 328) (rf_oLe (h 328) (h 322)) 21))) (h2 := (am_row h 322 (rf_oLe (h 328) (h 322)))) C dX12_readPart_115 k12_126 v_X12_isWord rfl rfl bn_322 sh_322 ⟨by decide, rfl⟩ (by decide) (Nat.zero_le _) (Nat.zero_le _) (Nat.le_of_ble_eq_true rfl) (c_X12_isWord hR 21 (show rf_To (rf_oLe (h 328) (h 322)) from hl.1) (show rf_b (rf_oLe (h 328) (h 322)) ≤ rf_p (rf_oLe (h 328) (h 322)) from hl.2.2.2) (show 21 < am_TX.length from (by decide))) ?_
                refine am_if_eqB (pc := 118) (tgt := 126) C dX12_readPart_118 (by decide) (fun q118 => ?_) (fun q118 => ?_)
                · skip
                  refine am_iconst (pc := 126) (v := -1) C dX12_readPart_126 rfl ?_
                  refine am_istore_n (pc := 127) (ls' := [(0, .ref 322), (1, .int (-1))]) C dX12_readPart_127 (by decide) rfl ?_
                  refine am_aload_n (pc := 128) C dX12_readPart_128 rfl ?_
                  refine am_iload_n (pc := 129) C dX12_readPart_129 rfl ?_
                  refine am_iconstN (pc := 130) (k := 0) C dX12_readPart_130 ?_
                  refine am_callVv (Y := mX12_emits) (pc := 131) (st := []) (As := [.int (-1), .int (nI 0)]) (h2 := (am_row (am_row (am_row h 322 (rf_oLe (h 328) (h 322))) 322 (rf_oEm (rf_oLe (h 328) (h 322)))) 323 (rf_wEm (rf_oLe (h 328) (h 322)) (h 323) (-1) (nI 0)))) C dX12_readPart_131 k12_200 v_X12_emits rfl rfl bn_322 sh_322 ⟨by decide, rfl⟩ (by decide) (Nat.zero_le _) (Nat.zero_le _) (Nat.le_of_ble_eq_true rfl) (c_X12_emits hR (-1) (nI 0) (show rf_n ((rf_oLe (h 328) (h 322)) 16) 400 from hlc.n)) ?_
                  refine am_hp (show (am_row (am_row (am_row h 322 (rf_oLe (h 328) (h 322))) 322 (rf_oEm (rf_oLe (h 328) (h 322)))) 323 (rf_wEm (rf_oLe (h 328) (h 322)) (h 323) (-1) (nI 0))) = (am_row (am_row h 322 (rf_oEm (rf_oLe (h 328) (h 322)))) 323 (rf_wEm (rf_oLe (h 328) (h 322)) (h 323) (-1) (nI 0))) from by rw [show (am_row (am_row h 322 (rf_oLe (h 328) (h 322))) 322 (rf_oEm (rf_oLe (h 328) (h 322)))) = (am_row h 322 (rf_oEm (rf_oLe (h 328) (h 322)))) from am_row_s0]) ?_
                  refine am_iload_n (pc := 134) C dX12_readPart_134 rfl ?_
                  refine am_if_lt (pc := 135) (tgt := 142) C dX12_readPart_135 (by decide) (fun q135 => ?_) (fun q135 => ?_)
                  · skip
                    refine am_iconstN (pc := 142) (k := 0) C dX12_readPart_142 ?_
                    have E9 : rf_part (h 328) (h 322) (h 323) = (false, rf_oEm (rf_oLe (h 328) (h 322)), rf_wEm (rf_oLe (h 328) (h 322)) (h 323) (-1) (nI 0)) := (by rw [rf_part, if_neg q12, show rf_wd (h 328) (rf_oLe (h 328) (h 322)) = 0 from (by rw [rf_wd, q40, q53, q66, q79, q92, q105, q118]; rfl), am_oi_0]; rfl)
                    exact am_iretb T dX12_readPart_143 rfl (Nat.le_refl _) (Nat.le_refl _) (by rw [E9] <;> rfl) rfl (by rw [E9] <;> exact rfl)
                  · skip
                    exact absurd (by decide) q135
                · skip
                  refine am_bipush (pc := 121) (v := nI 6) C dX12_readPart_121 (by decide) ?_
                  refine am_goto (pc := 123) (tgt := 127) C dX12_readPart_123 (by decide) ?_
                  refine am_istore_n (pc := 127) (ls' := [(0, .ref 322), (1, .int (nI 6))]) C dX12_readPart_127 (by decide) rfl ?_
                  refine am_aload_n (pc := 128) C dX12_readPart_128 rfl ?_
                  refine am_iload_n (pc := 129) C dX12_readPart_129 rfl ?_
                  refine am_iconstN (pc := 130) (k := 0) C dX12_readPart_130 ?_
                  refine am_callVv (Y := mX12_emits) (pc := 131) (st := []) (As := [.int (nI 6), .int (nI 0)]) (h2 := (am_row (am_row (am_row h 322 (rf_oLe (h 328) (h 322))) 322 (rf_oEm (rf_oLe (h 328) (h 322)))) 323 (rf_wEm (rf_oLe (h 328) (h 322)) (h 323) (nI 6) (nI 0)))) C dX12_readPart_131 k12_200 v_X12_emits rfl rfl bn_322 sh_322 ⟨by decide, rfl⟩ (by decide) (Nat.zero_le _) (Nat.zero_le _) (Nat.le_of_ble_eq_true rfl) (c_X12_emits hR (nI 6) (nI 0) (show rf_n ((rf_oLe (h 328) (h 322)) 16) 400 from hlc.n)) ?_
                  refine am_hp (show (am_row (am_row (am_row h 322 (rf_oLe (h 328) (h 322))) 322 (rf_oEm (rf_oLe (h 328) (h 322)))) 323 (rf_wEm (rf_oLe (h 328) (h 322)) (h 323) (nI 6) (nI 0))) = (am_row (am_row h 322 (rf_oEm (rf_oLe (h 328) (h 322)))) 323 (rf_wEm (rf_oLe (h 328) (h 322)) (h 323) (nI 6) (nI 0))) from by rw [show (am_row (am_row h 322 (rf_oLe (h 328) (h 322))) 322 (rf_oEm (rf_oLe (h 328) (h 322)))) = (am_row h 322 (rf_oEm (rf_oLe (h 328) (h 322)))) from am_row_s0]) ?_
                  refine am_iload_n (pc := 134) C dX12_readPart_134 rfl ?_
                  refine am_if_ltN (pc := 135) (tgt := 142) C dX12_readPart_135 (by decide) (by omega) ?_
                  refine am_iconstN (pc := 138) (k := 1) C dX12_readPart_138 ?_
                  refine am_goto (pc := 139) (tgt := 143) C dX12_readPart_139 (by decide) ?_
                  have E9 : rf_part (h 328) (h 322) (h 323) = (true, rf_oEm (rf_oLe (h 328) (h 322)), rf_wEm (rf_oLe (h 328) (h 322)) (h 323) (nI 6) (nI 0)) := (by rw [rf_part, if_neg q12, show rf_wd (h 328) (rf_oLe (h 328) (h 322)) = 6 + 1 from (by rw [rf_wd, q40, q53, q66, q79, q92, q105, q118]; rfl), am_oi_s]; rfl)
                  exact am_iretb T dX12_readPart_143 rfl (Nat.le_refl _) (Nat.le_refl _) (by rw [E9] <;> rfl) rfl (by rw [E9] <;> exact rfl)
              · skip
                refine am_iconstN (pc := 108) (k := 5) C dX12_readPart_108 ?_
                refine am_goto (pc := 109) (tgt := 127) C dX12_readPart_109 (by decide) ?_
                refine am_istore_n (pc := 127) (ls' := [(0, .ref 322), (1, .int (nI 5))]) C dX12_readPart_127 (by decide) rfl ?_
                refine am_aload_n (pc := 128) C dX12_readPart_128 rfl ?_
                refine am_iload_n (pc := 129) C dX12_readPart_129 rfl ?_
                refine am_iconstN (pc := 130) (k := 0) C dX12_readPart_130 ?_
                refine am_callVv (Y := mX12_emits) (pc := 131) (st := []) (As := [.int (nI 5), .int (nI 0)]) (h2 := (am_row (am_row (am_row h 322 (rf_oLe (h 328) (h 322))) 322 (rf_oEm (rf_oLe (h 328) (h 322)))) 323 (rf_wEm (rf_oLe (h 328) (h 322)) (h 323) (nI 5) (nI 0)))) C dX12_readPart_131 k12_200 v_X12_emits rfl rfl bn_322 sh_322 ⟨by decide, rfl⟩ (by decide) (Nat.zero_le _) (Nat.zero_le _) (Nat.le_of_ble_eq_true rfl) (c_X12_emits hR (nI 5) (nI 0) (show rf_n ((rf_oLe (h 328) (h 322)) 16) 400 from hlc.n)) ?_
                refine am_hp (show (am_row (am_row (am_row h 322 (rf_oLe (h 328) (h 322))) 322 (rf_oEm (rf_oLe (h 328) (h 322)))) 323 (rf_wEm (rf_oLe (h 328) (h 322)) (h 323) (nI 5) (nI 0))) = (am_row (am_row h 322 (rf_oEm (rf_oLe (h 328) (h 322)))) 323 (rf_wEm (rf_oLe (h 328) (h 322)) (h 323) (nI 5) (nI 0))) from by rw [show (am_row (am_row h 322 (rf_oLe (h 328) (h 322))) 322 (rf_oEm (rf_oLe (h 328) (h 322)))) = (am_row h 322 (rf_oEm (rf_oLe (h 328) (h 322)))) from am_row_s0]) ?_
                refine am_iload_n (pc := 134) C dX12_readPart_134 rfl ?_
                refine am_if_ltN (pc := 135) (tgt := 142) C dX12_readPart_135 (by decide) (by omega) ?_
                refine am_iconstN (pc := 138) (k := 1) C dX12_readPart_138 ?_
                refine am_goto (pc := 139) (tgt := 143) C dX12_readPart_139 (by decide) ?_
                have E9 : rf_part (h 328) (h 322) (h 323) = (true, rf_oEm (rf_oLe (h 328) (h 322)), rf_wEm (rf_oLe (h 328) (h 322)) (h 323) (nI 5) (nI 0)) := (by rw [rf_part, if_neg q12, show rf_wd (h 328) (rf_oLe (h 328) (h 322)) = 5 + 1 from (by rw [rf_wd, q40, q53, q66, q79, q92, q105]; rfl), am_oi_s]; rfl)
                exact am_iretb T dX12_readPart_143 rfl (Nat.le_refl _) (Nat.le_refl _) (by rw [E9] <;> rfl) rfl (by rw [E9] <;> exact rfl)
            · skip
              refine am_iconstN (pc := 95) (k := 4) C dX12_readPart_95 ?_
              refine am_goto (pc := 96) (tgt := 127) C dX12_readPart_96 (by decide) ?_
              refine am_istore_n (pc := 127) (ls' := [(0, .ref 322), (1, .int (nI 4))]) C dX12_readPart_127 (by decide) rfl ?_
              refine am_aload_n (pc := 128) C dX12_readPart_128 rfl ?_
              refine am_iload_n (pc := 129) C dX12_readPart_129 rfl ?_
              refine am_iconstN (pc := 130) (k := 0) C dX12_readPart_130 ?_
              refine am_callVv (Y := mX12_emits) (pc := 131) (st := []) (As := [.int (nI 4), .int (nI 0)]) (h2 := (am_row (am_row (am_row h 322 (rf_oLe (h 328) (h 322))) 322 (rf_oEm (rf_oLe (h 328) (h 322)))) 323 (rf_wEm (rf_oLe (h 328) (h 322)) (h 323) (nI 4) (nI 0)))) C dX12_readPart_131 k12_200 v_X12_emits rfl rfl bn_322 sh_322 ⟨by decide, rfl⟩ (by decide) (Nat.zero_le _) (Nat.zero_le _) (Nat.le_of_ble_eq_true rfl) (c_X12_emits hR (nI 4) (nI 0) (show rf_n ((rf_oLe (h 328) (h 322)) 16) 400 from hlc.n)) ?_
              refine am_hp (show (am_row (am_row (am_row h 322 (rf_oLe (h 328) (h 322))) 322 (rf_oEm (rf_oLe (h 328) (h 322)))) 323 (rf_wEm (rf_oLe (h 328) (h 322)) (h 323) (nI 4) (nI 0))) = (am_row (am_row h 322 (rf_oEm (rf_oLe (h 328) (h 322)))) 323 (rf_wEm (rf_oLe (h 328) (h 322)) (h 323) (nI 4) (nI 0))) from by rw [show (am_row (am_row h 322 (rf_oLe (h 328) (h 322))) 322 (rf_oEm (rf_oLe (h 328) (h 322)))) = (am_row h 322 (rf_oEm (rf_oLe (h 328) (h 322)))) from am_row_s0]) ?_
              refine am_iload_n (pc := 134) C dX12_readPart_134 rfl ?_
              refine am_if_ltN (pc := 135) (tgt := 142) C dX12_readPart_135 (by decide) (by omega) ?_
              refine am_iconstN (pc := 138) (k := 1) C dX12_readPart_138 ?_
              refine am_goto (pc := 139) (tgt := 143) C dX12_readPart_139 (by decide) ?_
              have E9 : rf_part (h 328) (h 322) (h 323) = (true, rf_oEm (rf_oLe (h 328) (h 322)), rf_wEm (rf_oLe (h 328) (h 322)) (h 323) (nI 4) (nI 0)) := (by rw [rf_part, if_neg q12, show rf_wd (h 328) (rf_oLe (h 328) (h 322)) = 4 + 1 from (by rw [rf_wd, q40, q53, q66, q79, q92]; rfl), am_oi_s]; rfl)
              exact am_iretb T dX12_readPart_143 rfl (Nat.le_refl _) (Nat.le_refl _) (by rw [E9] <;> rfl) rfl (by rw [E9] <;> exact rfl)
          · skip
            refine am_iconstN (pc := 82) (k := 3) C dX12_readPart_82 ?_
            refine am_goto (pc := 83) (tgt := 127) C dX12_readPart_83 (by decide) ?_
            refine am_istore_n (pc := 127) (ls' := [(0, .ref 322), (1, .int (nI 3))]) C dX12_readPart_127 (by decide) rfl ?_
            refine am_aload_n (pc := 128) C dX12_readPart_128 rfl ?_
            refine am_iload_n (pc := 129) C dX12_readPart_129 rfl ?_
            refine am_iconstN (pc := 130) (k := 0) C dX12_readPart_130 ?_
            refine am_callVv (Y := mX12_emits) (pc := 131) (st := []) (As := [.int (nI 3), .int (nI 0)]) (h2 := (am_row (am_row (am_row h 322 (rf_oLe (h 328) (h 322))) 322 (rf_oEm (rf_oLe (h 328) (h 322)))) 323 (rf_wEm (rf_oLe (h 328) (h 322)) (h 323) (nI 3) (nI 0)))) C dX12_readPart_131 k12_200 v_X12_emits rfl rfl bn_322 sh_322 ⟨by decide, rfl⟩ (by decide) (Nat.zero_le _) (Nat.zero_le _) (Nat.le_of_ble_eq_true rfl) (c_X12_emits hR (nI 3) (nI 0) (show rf_n ((rf_oLe (h 328) (h 322)) 16) 400 from hlc.n)) ?_
            refine am_hp (show (am_row (am_row (am_row h 322 (rf_oLe (h 328) (h 322))) 322 (rf_oEm (rf_oLe (h 328) (h 322)))) 323 (rf_wEm (rf_oLe (h 328) (h 322)) (h 323) (nI 3) (nI 0))) = (am_row (am_row h 322 (rf_oEm (rf_oLe (h 328) (h 322)))) 323 (rf_wEm (rf_oLe (h 328) (h 322)) (h 323) (nI 3) (nI 0))) from by rw [show (am_row (am_row h 322 (rf_oLe (h 328) (h 322))) 322 (rf_oEm (rf_oLe (h 328) (h 322)))) = (am_row h 322 (rf_oEm (rf_oLe (h 328) (h 322)))) from am_row_s0]) ?_
            refine am_iload_n (pc := 134) C dX12_readPart_134 rfl ?_
            refine am_if_ltN (pc := 135) (tgt := 142) C dX12_readPart_135 (by decide) (by omega) ?_
            refine am_iconstN (pc := 138) (k := 1) C dX12_readPart_138 ?_
            refine am_goto (pc := 139) (tgt := 143) C dX12_readPart_139 (by decide) ?_
            have E9 : rf_part (h 328) (h 322) (h 323) = (true, rf_oEm (rf_oLe (h 328) (h 322)), rf_wEm (rf_oLe (h 328) (h 322)) (h 323) (nI 3) (nI 0)) := (by rw [rf_part, if_neg q12, show rf_wd (h 328) (rf_oLe (h 328) (h 322)) = 3 + 1 from (by rw [rf_wd, q40, q53, q66, q79]; rfl), am_oi_s]; rfl)
            exact am_iretb T dX12_readPart_143 rfl (Nat.le_refl _) (Nat.le_refl _) (by rw [E9] <;> rfl) rfl (by rw [E9] <;> exact rfl)
        · skip
          refine am_iconstN (pc := 69) (k := 2) C dX12_readPart_69 ?_
          refine am_goto (pc := 70) (tgt := 127) C dX12_readPart_70 (by decide) ?_
          refine am_istore_n (pc := 127) (ls' := [(0, .ref 322), (1, .int (nI 2))]) C dX12_readPart_127 (by decide) rfl ?_
          refine am_aload_n (pc := 128) C dX12_readPart_128 rfl ?_
          refine am_iload_n (pc := 129) C dX12_readPart_129 rfl ?_
          refine am_iconstN (pc := 130) (k := 0) C dX12_readPart_130 ?_
          refine am_callVv (Y := mX12_emits) (pc := 131) (st := []) (As := [.int (nI 2), .int (nI 0)]) (h2 := (am_row (am_row (am_row h 322 (rf_oLe (h 328) (h 322))) 322 (rf_oEm (rf_oLe (h 328) (h 322)))) 323 (rf_wEm (rf_oLe (h 328) (h 322)) (h 323) (nI 2) (nI 0)))) C dX12_readPart_131 k12_200 v_X12_emits rfl rfl bn_322 sh_322 ⟨by decide, rfl⟩ (by decide) (Nat.zero_le _) (Nat.zero_le _) (Nat.le_of_ble_eq_true rfl) (c_X12_emits hR (nI 2) (nI 0) (show rf_n ((rf_oLe (h 328) (h 322)) 16) 400 from hlc.n)) ?_
          refine am_hp (show (am_row (am_row (am_row h 322 (rf_oLe (h 328) (h 322))) 322 (rf_oEm (rf_oLe (h 328) (h 322)))) 323 (rf_wEm (rf_oLe (h 328) (h 322)) (h 323) (nI 2) (nI 0))) = (am_row (am_row h 322 (rf_oEm (rf_oLe (h 328) (h 322)))) 323 (rf_wEm (rf_oLe (h 328) (h 322)) (h 323) (nI 2) (nI 0))) from by rw [show (am_row (am_row h 322 (rf_oLe (h 328) (h 322))) 322 (rf_oEm (rf_oLe (h 328) (h 322)))) = (am_row h 322 (rf_oEm (rf_oLe (h 328) (h 322)))) from am_row_s0]) ?_
          refine am_iload_n (pc := 134) C dX12_readPart_134 rfl ?_
          refine am_if_ltN (pc := 135) (tgt := 142) C dX12_readPart_135 (by decide) (by omega) ?_
          refine am_iconstN (pc := 138) (k := 1) C dX12_readPart_138 ?_
          refine am_goto (pc := 139) (tgt := 143) C dX12_readPart_139 (by decide) ?_
          have E9 : rf_part (h 328) (h 322) (h 323) = (true, rf_oEm (rf_oLe (h 328) (h 322)), rf_wEm (rf_oLe (h 328) (h 322)) (h 323) (nI 2) (nI 0)) := (by rw [rf_part, if_neg q12, show rf_wd (h 328) (rf_oLe (h 328) (h 322)) = 2 + 1 from (by rw [rf_wd, q40, q53, q66]; rfl), am_oi_s]; rfl)
          exact am_iretb T dX12_readPart_143 rfl (Nat.le_refl _) (Nat.le_refl _) (by rw [E9] <;> rfl) rfl (by rw [E9] <;> exact rfl)
      · skip
        refine am_iconstN (pc := 56) (k := 1) C dX12_readPart_56 ?_
        refine am_goto (pc := 57) (tgt := 127) C dX12_readPart_57 (by decide) ?_
        refine am_istore_n (pc := 127) (ls' := [(0, .ref 322), (1, .int (nI 1))]) C dX12_readPart_127 (by decide) rfl ?_
        refine am_aload_n (pc := 128) C dX12_readPart_128 rfl ?_
        refine am_iload_n (pc := 129) C dX12_readPart_129 rfl ?_
        refine am_iconstN (pc := 130) (k := 0) C dX12_readPart_130 ?_
        refine am_callVv (Y := mX12_emits) (pc := 131) (st := []) (As := [.int (nI 1), .int (nI 0)]) (h2 := (am_row (am_row (am_row h 322 (rf_oLe (h 328) (h 322))) 322 (rf_oEm (rf_oLe (h 328) (h 322)))) 323 (rf_wEm (rf_oLe (h 328) (h 322)) (h 323) (nI 1) (nI 0)))) C dX12_readPart_131 k12_200 v_X12_emits rfl rfl bn_322 sh_322 ⟨by decide, rfl⟩ (by decide) (Nat.zero_le _) (Nat.zero_le _) (Nat.le_of_ble_eq_true rfl) (c_X12_emits hR (nI 1) (nI 0) (show rf_n ((rf_oLe (h 328) (h 322)) 16) 400 from hlc.n)) ?_
        refine am_hp (show (am_row (am_row (am_row h 322 (rf_oLe (h 328) (h 322))) 322 (rf_oEm (rf_oLe (h 328) (h 322)))) 323 (rf_wEm (rf_oLe (h 328) (h 322)) (h 323) (nI 1) (nI 0))) = (am_row (am_row h 322 (rf_oEm (rf_oLe (h 328) (h 322)))) 323 (rf_wEm (rf_oLe (h 328) (h 322)) (h 323) (nI 1) (nI 0))) from by rw [show (am_row (am_row h 322 (rf_oLe (h 328) (h 322))) 322 (rf_oEm (rf_oLe (h 328) (h 322)))) = (am_row h 322 (rf_oEm (rf_oLe (h 328) (h 322)))) from am_row_s0]) ?_
        refine am_iload_n (pc := 134) C dX12_readPart_134 rfl ?_
        refine am_if_ltN (pc := 135) (tgt := 142) C dX12_readPart_135 (by decide) (by omega) ?_
        refine am_iconstN (pc := 138) (k := 1) C dX12_readPart_138 ?_
        refine am_goto (pc := 139) (tgt := 143) C dX12_readPart_139 (by decide) ?_
        have E9 : rf_part (h 328) (h 322) (h 323) = (true, rf_oEm (rf_oLe (h 328) (h 322)), rf_wEm (rf_oLe (h 328) (h 322)) (h 323) (nI 1) (nI 0)) := (by rw [rf_part, if_neg q12, show rf_wd (h 328) (rf_oLe (h 328) (h 322)) = 1 + 1 from (by rw [rf_wd, q40, q53]; rfl), am_oi_s]; rfl)
        exact am_iretb T dX12_readPart_143 rfl (Nat.le_refl _) (Nat.le_refl _) (by rw [E9] <;> rfl) rfl (by rw [E9] <;> exact rfl)
    · skip
      refine am_iconstN (pc := 43) (k := 0) C dX12_readPart_43 ?_
      refine am_goto (pc := 44) (tgt := 127) C dX12_readPart_44 (by decide) ?_
      refine am_istore_n (pc := 127) (ls' := [(0, .ref 322), (1, .int (nI 0))]) C dX12_readPart_127 (by decide) rfl ?_
      refine am_aload_n (pc := 128) C dX12_readPart_128 rfl ?_
      refine am_iload_n (pc := 129) C dX12_readPart_129 rfl ?_
      refine am_iconstN (pc := 130) (k := 0) C dX12_readPart_130 ?_
      refine am_callVv (Y := mX12_emits) (pc := 131) (st := []) (As := [.int (nI 0), .int (nI 0)]) (h2 := (am_row (am_row (am_row h 322 (rf_oLe (h 328) (h 322))) 322 (rf_oEm (rf_oLe (h 328) (h 322)))) 323 (rf_wEm (rf_oLe (h 328) (h 322)) (h 323) (nI 0) (nI 0)))) C dX12_readPart_131 k12_200 v_X12_emits rfl rfl bn_322 sh_322 ⟨by decide, rfl⟩ (by decide) (Nat.zero_le _) (Nat.zero_le _) (Nat.le_of_ble_eq_true rfl) (c_X12_emits hR (nI 0) (nI 0) (show rf_n ((rf_oLe (h 328) (h 322)) 16) 400 from hlc.n)) ?_
      refine am_hp (show (am_row (am_row (am_row h 322 (rf_oLe (h 328) (h 322))) 322 (rf_oEm (rf_oLe (h 328) (h 322)))) 323 (rf_wEm (rf_oLe (h 328) (h 322)) (h 323) (nI 0) (nI 0))) = (am_row (am_row h 322 (rf_oEm (rf_oLe (h 328) (h 322)))) 323 (rf_wEm (rf_oLe (h 328) (h 322)) (h 323) (nI 0) (nI 0))) from by rw [show (am_row (am_row h 322 (rf_oLe (h 328) (h 322))) 322 (rf_oEm (rf_oLe (h 328) (h 322)))) = (am_row h 322 (rf_oEm (rf_oLe (h 328) (h 322)))) from am_row_s0]) ?_
      refine am_iload_n (pc := 134) C dX12_readPart_134 rfl ?_
      refine am_if_ltN (pc := 135) (tgt := 142) C dX12_readPart_135 (by decide) (by omega) ?_
      refine am_iconstN (pc := 138) (k := 1) C dX12_readPart_138 ?_
      refine am_goto (pc := 139) (tgt := 143) C dX12_readPart_139 (by decide) ?_
      have E9 : rf_part (h 328) (h 322) (h 323) = (true, rf_oEm (rf_oLe (h 328) (h 322)), rf_wEm (rf_oLe (h 328) (h 322)) (h 323) (nI 0) (nI 0)) := (by rw [rf_part, if_neg q12, show rf_wd (h 328) (rf_oLe (h 328) (h 322)) = 0 + 1 from (by rw [rf_wd, q40]; rfl), am_oi_s]; rfl)
      exact am_iretb T dX12_readPart_143 rfl (Nat.le_refl _) (Nat.le_refl _) (by rw [E9] <;> rfl) rfl (by rw [E9] <;> exact rfl)
  · skip
    refine am_aload_n (pc := 15) C dX12_readPart_15 rfl ?_
    refine am_iconstN (pc := 16) (k := 0) C dX12_readPart_16 ?_
    refine am_sipush (pc := 17) (v := nI 999) C dX12_readPart_17 (by decide) ?_
    refine am_callVi (Y := mX12_number) (pc := 20) (st := []) (As := [.int (nI 0), .int (nI 999)]) (x := (am_oi (rf_rNum (h 328) (rf_oLe (h 328) (h 322)) 0 (nI 999)))) (h2 := (am_row (am_row h 322 (rf_oLe (h 328) (h 322))) 322 (rf_oNum (h 328) (rf_oLe (h 328) (h 322))))) C dX12_readPart_20 k12_130 v_X12_number rfl rfl bn_322 sh_322 ⟨by decide, rfl⟩ (by decide) (Nat.zero_le _) (Nat.zero_le _) (Nat.le_of_ble_eq_true rfl) (c_X12_number hR 0 (nI 999) (show rf_To (rf_oLe (h 328) (h 322)) from hl.1) (show 0 < 2147483648 from (by decide))) ?_
    refine am_hp (show (am_row (am_row h 322 (rf_oLe (h 328) (h 322))) 322 (rf_oNum (h 328) (rf_oLe (h 328) (h 322)))) = (am_row h 322 (rf_oNum (h 328) (rf_oLe (h 328) (h 322)))) from am_row_s0) ?_
    refine am_istore_n (pc := 23) (ls' := [(0, .ref 322), (1, .int (am_oi (rf_rNum (h 328) (rf_oLe (h 328) (h 322)) 0 (nI 999))))]) C dX12_readPart_23 (by decide) rfl ?_
    refine am_aload_n (pc := 24) C dX12_readPart_24 rfl ?_
    refine am_bipush (pc := 25) (v := nI 8) C dX12_readPart_25 (by decide) ?_
    refine am_iload_n (pc := 27) C dX12_readPart_27 rfl ?_
    refine am_callVv (Y := mX12_emits) (pc := 28) (st := []) (As := [.int (nI 8), .int (am_oi (rf_rNum (h 328) (rf_oLe (h 328) (h 322)) 0 (nI 999)))]) (h2 := (am_row (am_row (am_row h 322 (rf_oNum (h 328) (rf_oLe (h 328) (h 322)))) 322 (rf_oEm (rf_oNum (h 328) (rf_oLe (h 328) (h 322))))) 323 (rf_wEm (rf_oNum (h 328) (rf_oLe (h 328) (h 322))) (h 323) (nI 8) (am_oi (rf_rNum (h 328) (rf_oLe (h 328) (h 322)) 0 (nI 999)))))) C dX12_readPart_28 k12_200 v_X12_emits rfl rfl bn_322 sh_322 ⟨by decide, rfl⟩ (by decide) (Nat.zero_le _) (Nat.zero_le _) (Nat.le_of_ble_eq_true rfl) (c_X12_emits hR (nI 8) (am_oi (rf_rNum (h 328) (rf_oLe (h 328) (h 322)) 0 (nI 999))) (show rf_n ((rf_oNum (h 328) (rf_oLe (h 328) (h 322))) 16) 400 from hnc.n)) ?_
    refine am_hp (show (am_row (am_row (am_row h 322 (rf_oNum (h 328) (rf_oLe (h 328) (h 322)))) 322 (rf_oEm (rf_oNum (h 328) (rf_oLe (h 328) (h 322))))) 323 (rf_wEm (rf_oNum (h 328) (rf_oLe (h 328) (h 322))) (h 323) (nI 8) (am_oi (rf_rNum (h 328) (rf_oLe (h 328) (h 322)) 0 (nI 999))))) = (am_row (am_row h 322 (rf_oEm (rf_oNum (h 328) (rf_oLe (h 328) (h 322))))) 323 (rf_wEm (rf_oNum (h 328) (rf_oLe (h 328) (h 322))) (h 323) (nI 8) (am_oi (rf_rNum (h 328) (rf_oLe (h 328) (h 322)) 0 (nI 999))))) from by rw [show (am_row (am_row h 322 (rf_oNum (h 328) (rf_oLe (h 328) (h 322)))) 322 (rf_oEm (rf_oNum (h 328) (rf_oLe (h 328) (h 322))))) = (am_row h 322 (rf_oEm (rf_oNum (h 328) (rf_oLe (h 328) (h 322))))) from am_row_s0]) ?_
    refine am_goto (pc := 31) (tgt := 134) C dX12_readPart_31 (by decide) ?_
    refine am_iload_n (pc := 134) C dX12_readPart_134 rfl ?_
    refine am_if_ltO (pc := 135) (tgt := 142) C dX12_readPart_135 (by decide) (by omega) (fun q135 => ?_) (fun q135 => ?_)
    · skip
      refine am_iconstN (pc := 142) (k := 0) C dX12_readPart_142 ?_
      have E9 : rf_part (h 328) (h 322) (h 323) = (false, rf_oEm (rf_oNum (h 328) (rf_oLe (h 328) (h 322))), rf_wEm (rf_oNum (h 328) (rf_oLe (h 328) (h 322))) (h 323) (nI 8) (am_oi (rf_rNum (h 328) (rf_oLe (h 328) (h 322)) 0 (nI 999)))) := (by rw [rf_part, if_pos q12, q135]; rfl)
      exact am_iretb T dX12_readPart_143 rfl (Nat.le_refl _) (Nat.le_refl _) (by rw [E9] <;> rfl) rfl (by rw [E9] <;> exact rfl)
    · skip
      refine am_iconstN (pc := 138) (k := 1) C dX12_readPart_138 ?_
      refine am_goto (pc := 139) (tgt := 143) C dX12_readPart_139 (by decide) ?_
      have E9 : rf_part (h 328) (h 322) (h 323) = (true, rf_oEm (rf_oNum (h 328) (rf_oLe (h 328) (h 322))), rf_wEm (rf_oNum (h 328) (rf_oLe (h 328) (h 322))) (h 323) (nI 8) (am_oi (rf_rNum (h 328) (rf_oLe (h 328) (h 322)) 0 (nI 999)))) := (by rw [rf_part, if_pos q12, decide_eq_true q135])
      exact am_iretb T dX12_readPart_143 rfl (Nat.le_refl _) (Nat.le_refl _) (by rw [E9] <;> rfl) rfl (by rw [E9] <;> exact rfl)

set_option maxHeartbeats 400000 in
set_option maxRecDepth 100000 in
theorem c_X12_readSum {ad : Nat → Nat} {r : am_R} (hR : am_rs r) {h : am_H}  (hcr : rf_cr (h 322))  : am_CM mX12_readSum 9 0 0 [.ref 322] (am_VV ad) r h (am_po (some (.int (am_b ((rf_sum (h 328) (h 322) (h 323)).1)))) r (am_row (am_row h 322 ((rf_sum (h 328) (h 322) (h 323)).2.1)) 323 ((rf_sum (h 328) (h 322) (h 323)).2.2))) := by
  refine am_CM.of (by decide +kernel) (Nat.le_of_ble_eq_true rfl) (fun X C T => ?_)
  show am_G X (am_VV ad) (0, 0) 0 [(0, .ref 322)] [] r h
  have hT := hcr.1
  have hpt := rf_Tq_part (t := h 328) (w := h 323) hcr
  refine am_aload_n (pc := 0) C dX12_readSum_0 rfl ?_
  refine am_callVi (Y := mX12_readPart) (pc := 1) (st := []) (As := []) (x := (am_b ((rf_part (h 328) (h 322) (h 323)).1))) (h2 := (am_row (am_row h 322 ((rf_part (h 328) (h 322) (h 323)).2.1)) 323 ((rf_part (h 328) (h 322) (h 323)).2.2))) C dX12_readSum_1 k12_214 v_X12_readPart rfl rfl bn_322 sh_322 ⟨by decide, rfl⟩ (by decide) (Nat.zero_le _) (Nat.zero_le _) (Nat.le_of_ble_eq_true rfl) (c_X12_readPart hR (show rf_cr (h 322) from hcr)) ?_
  refine am_if_neB (pc := 4) (tgt := 9) C dX12_readSum_4 (by decide) (fun q4 => ?_) (fun q4 => ?_)
  · skip
    have L9 : ∀ (j9 : Nat) (o : rf_W) (w : rf_W), (hco : rf_cr o) → (hfu : rf_e o - rf_p o < j9) → (hms : rf_sumL (h 328) j9 o w = rf_sum (h 328) (h 322) (h 323)) → am_G X (am_VV ad) (0, 0) 9 [(0, .ref 322)] [] r (am_row (am_row h 322 o) 323 w) := by
      intro j9
      induction j9 with
      | zero =>
        intro o w hco hfu hms
        exact absurd hfu (by omega)
      | succ j9 ih9 =>
        intro o w hco hfu hms
        have hsg := rf_Tm_sig (t := h 328) (c := 43) hco.1
        have hp2 := rf_Tq_part (t := h 328) (w := w) (hsg.cr hco)
        refine am_aload_n (pc := 9) C dX12_readSum_9 rfl ?_
        refine am_bipush (pc := 10) (v := nI 43) C dX12_readSum_10 (by decide) ?_
        refine am_callVi (Y := mX12_sign) (pc := 12) (st := []) (As := [.int (nI 43)]) (x := (am_b (rf_rSig (h 328) o 43))) (h2 := (am_row (am_row (am_row h 322 o) 323 w) 322 (rf_oSig (h 328) o 43))) C dX12_readSum_12 k12_217 v_X12_sign rfl rfl bn_322 sh_322 ⟨by decide, rfl⟩ (by decide) (Nat.zero_le _) (Nat.zero_le _) (Nat.le_of_ble_eq_true rfl) (c_X12_sign hR 43 (show rf_To o from hco.1)) ?_
        refine am_hp (show (am_row (am_row (am_row h 322 o) 323 w) 322 (rf_oSig (h 328) o 43)) = (am_row (am_row h 322 (rf_oSig (h 328) o 43)) 323 w) from am_row_s1 (by decide)) ?_
        refine am_if_eqB (pc := 15) (tgt := 37) C dX12_readSum_15 (by decide) (fun q15 => ?_) (fun q15 => ?_)
        · skip
          refine am_iconstN (pc := 37) (k := 1) C dX12_readSum_37 ?_
          have E9 : rf_sum (h 328) (h 322) (h 323) = (true, rf_oSig (h 328) o 43, w) := (by rw [← hms, rf_sumL, q15]; rfl)
          exact am_iretb T dX12_readSum_38 rfl (Nat.le_refl _) (Nat.le_refl _) (by rw [E9] <;> rfl) rfl (by rw [E9] <;> exact rfl)
        · skip
          refine am_aload_n (pc := 18) C dX12_readSum_18 rfl ?_
          refine am_callVi (Y := mX12_readPart) (pc := 19) (st := []) (As := []) (x := (am_b ((rf_part (h 328) (rf_oSig (h 328) o 43) w).1))) (h2 := (am_row (am_row (am_row (am_row h 322 (rf_oSig (h 328) o 43)) 323 w) 322 ((rf_part (h 328) (rf_oSig (h 328) o 43) w).2.1)) 323 ((rf_part (h 328) (rf_oSig (h 328) o 43) w).2.2))) C dX12_readSum_19 k12_214 v_X12_readPart rfl rfl bn_322 sh_322 ⟨by decide, rfl⟩ (by decide) (Nat.zero_le _) (Nat.zero_le _) (Nat.le_of_ble_eq_true rfl) (c_X12_readPart hR (show rf_cr (rf_oSig (h 328) o 43) from (hsg.cr hco))) ?_
          refine am_hp (show (am_row (am_row (am_row (am_row h 322 (rf_oSig (h 328) o 43)) 323 w) 322 ((rf_part (h 328) (rf_oSig (h 328) o 43) w).2.1)) 323 ((rf_part (h 328) (rf_oSig (h 328) o 43) w).2.2)) = (am_row (am_row (am_row h 322 ((rf_part (h 328) (rf_oSig (h 328) o 43) w).2.1)) 323 w) 323 ((rf_part (h 328) (rf_oSig (h 328) o 43) w).2.2)) from by rw [show (am_row (am_row (am_row h 322 (rf_oSig (h 328) o 43)) 323 w) 322 ((rf_part (h 328) (rf_oSig (h 328) o 43) w).2.1)) = (am_row (am_row h 322 ((rf_part (h 328) (rf_oSig (h 328) o 43) w).2.1)) 323 w) from am_row_s1 (by decide)]) ?_
          refine am_hp (show (am_row (am_row (am_row h 322 ((rf_part (h 328) (rf_oSig (h 328) o 43) w).2.1)) 323 w) 323 ((rf_part (h 328) (rf_oSig (h 328) o 43) w).2.2)) = (am_row (am_row h 322 ((rf_part (h 328) (rf_oSig (h 328) o 43) w).2.1)) 323 ((rf_part (h 328) (rf_oSig (h 328) o 43) w).2.2)) from am_row_s0) ?_
          refine am_if_neB (pc := 22) (tgt := 27) C dX12_readSum_22 (by decide) (fun q22 => ?_) (fun q22 => ?_)
          · skip
            obtain ⟨g1, g2⟩ := rf_Tg_op hco hsg (rf_sig_s hco.1 q15) (hp2.2 q22)
            refine am_aload_n (pc := 27) C dX12_readSum_27 rfl ?_
            refine am_bipush (pc := 28) (v := nI 9) C dX12_readSum_28 (by decide) ?_
            refine am_iconstN (pc := 30) (k := 0) C dX12_readSum_30 ?_
            refine am_callVv (Y := mX12_emits) (pc := 31) (st := []) (As := [.int (nI 9), .int (nI 0)]) (h2 := (am_row (am_row (am_row (am_row h 322 ((rf_part (h 328) (rf_oSig (h 328) o 43) w).2.1)) 323 ((rf_part (h 328) (rf_oSig (h 328) o 43) w).2.2)) 322 (rf_oEm ((rf_part (h 328) (rf_oSig (h 328) o 43) w).2.1))) 323 (rf_wEm ((rf_part (h 328) (rf_oSig (h 328) o 43) w).2.1) ((rf_part (h 328) (rf_oSig (h 328) o 43) w).2.2) (nI 9) (nI 0)))) C dX12_readSum_31 k12_200 v_X12_emits rfl rfl bn_322 sh_322 ⟨by decide, rfl⟩ (by decide) (Nat.zero_le _) (Nat.zero_le _) (Nat.le_of_ble_eq_true rfl) (c_X12_emits hR (nI 9) (nI 0) (show rf_n (((rf_part (h 328) (rf_oSig (h 328) o 43) w).2.1) 16) 400 from (((hp2.2 q22).cr (hsg.cr hco)).n))) ?_
            refine am_hp (show (am_row (am_row (am_row (am_row h 322 ((rf_part (h 328) (rf_oSig (h 328) o 43) w).2.1)) 323 ((rf_part (h 328) (rf_oSig (h 328) o 43) w).2.2)) 322 (rf_oEm ((rf_part (h 328) (rf_oSig (h 328) o 43) w).2.1))) 323 (rf_wEm ((rf_part (h 328) (rf_oSig (h 328) o 43) w).2.1) ((rf_part (h 328) (rf_oSig (h 328) o 43) w).2.2) (nI 9) (nI 0))) = (am_row (am_row (am_row h 322 (rf_oEm ((rf_part (h 328) (rf_oSig (h 328) o 43) w).2.1))) 323 ((rf_part (h 328) (rf_oSig (h 328) o 43) w).2.2)) 323 (rf_wEm ((rf_part (h 328) (rf_oSig (h 328) o 43) w).2.1) ((rf_part (h 328) (rf_oSig (h 328) o 43) w).2.2) (nI 9) (nI 0))) from by rw [show (am_row (am_row (am_row h 322 ((rf_part (h 328) (rf_oSig (h 328) o 43) w).2.1)) 323 ((rf_part (h 328) (rf_oSig (h 328) o 43) w).2.2)) 322 (rf_oEm ((rf_part (h 328) (rf_oSig (h 328) o 43) w).2.1))) = (am_row (am_row h 322 (rf_oEm ((rf_part (h 328) (rf_oSig (h 328) o 43) w).2.1))) 323 ((rf_part (h 328) (rf_oSig (h 328) o 43) w).2.2)) from am_row_s1 (by decide)]) ?_
            refine am_hp (show (am_row (am_row (am_row h 322 (rf_oEm ((rf_part (h 328) (rf_oSig (h 328) o 43) w).2.1))) 323 ((rf_part (h 328) (rf_oSig (h 328) o 43) w).2.2)) 323 (rf_wEm ((rf_part (h 328) (rf_oSig (h 328) o 43) w).2.1) ((rf_part (h 328) (rf_oSig (h 328) o 43) w).2.2) (nI 9) (nI 0))) = (am_row (am_row h 322 (rf_oEm ((rf_part (h 328) (rf_oSig (h 328) o 43) w).2.1))) 323 (rf_wEm ((rf_part (h 328) (rf_oSig (h 328) o 43) w).2.1) ((rf_part (h 328) (rf_oSig (h 328) o 43) w).2.2) (nI 9) (nI 0))) from am_row_s0) ?_
            refine am_goto (pc := 34) (tgt := 9) C dX12_readSum_34 (by decide) ?_
            refine am_hp (show (am_row (am_row h 322 (rf_oEm ((rf_part (h 328) (rf_oSig (h 328) o 43) w).2.1))) 323 (rf_wEm ((rf_part (h 328) (rf_oSig (h 328) o 43) w).2.1) ((rf_part (h 328) (rf_oSig (h 328) o 43) w).2.2) (nI 9) (nI 0))) = (am_row (am_row h 322 (rf_oEm (rf_part (h 328) (rf_oSig (h 328) o 43) w).2.1)) 323 (rf_wEm (rf_part (h 328) (rf_oSig (h 328) o 43) w).2.1 (rf_part (h 328) (rf_oSig (h 328) o 43) w).2.2 (nI 9) (nI 0))) from rfl) ?_
            exact ih9 (rf_oEm (rf_part (h 328) (rf_oSig (h 328) o 43) w).2.1) (rf_wEm (rf_part (h 328) (rf_oSig (h 328) o 43) w).2.1 (rf_part (h 328) (rf_oSig (h 328) o 43) w).2.2 (nI 9) (nI 0)) (g1.cr hco) (by have c9 : rf_p o ≤ rf_e o := hco.1.2.2.1; have d9 : rf_p (rf_oEm (rf_part (h 328) (rf_oSig (h 328) o 43) w).2.1) ≤ rf_e (rf_oEm (rf_part (h 328) (rf_oSig (h 328) o 43) w).2.1) := g1.1.1.2.2.1; rw [g1.1.e] at d9 ⊢; omega) (by rw [← hms, rf_sumL, q15]; show _ = bif _ then _ else _; rw [q22]; rfl)
          · skip
            refine am_iconstN (pc := 25) (k := 0) C dX12_readSum_25 ?_
            have E9 : rf_sum (h 328) (h 322) (h 323) = (false, (rf_part (h 328) (rf_oSig (h 328) o 43) w).2.1, (rf_part (h 328) (rf_oSig (h 328) o 43) w).2.2) := (by rw [← hms, rf_sumL, q15]; show (bif _ then _ else _) = _; rw [q22]; rfl)
            exact am_iretb T dX12_readSum_26 rfl (Nat.le_refl _) (Nat.le_refl _) (by rw [E9] <;> rfl) rfl (by rw [E9] <;> exact rfl)
    exact L9 402 ((rf_part (h 328) (h 322) (h 323)).2.1) ((rf_part (h 328) (h 322) (h 323)).2.2) ((hpt.2 q4).cr hcr) (by have := hpt.1.1.2.1.2; unfold rf_e; omega) (by rw [rf_sum, q4]; rfl)
  · skip
    refine am_iconstN (pc := 7) (k := 0) C dX12_readSum_7 ?_
    have E9 : rf_sum (h 328) (h 322) (h 323) = (false, (rf_part (h 328) (h 322) (h 323)).2.1, (rf_part (h 328) (h 322) (h 323)).2.2) := (by rw [rf_sum, q4]; rfl)
    exact am_iretb T dX12_readSum_8 rfl (Nat.le_refl _) (Nat.le_refl _) (by rw [E9] <;> rfl) rfl (by rw [E9] <;> exact rfl)

