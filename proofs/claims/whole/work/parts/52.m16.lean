/-! duels: contracts -/
theorem rf_bst_y {w : rf_W} {a b k : Nat} (h : rf_race (rf_rc w b (rf_wo (2 ^ rf_kn w b - 1) k)) (rf_rc w a (2 ^ rf_kn w a - 1)) = false ∧ (rf_bst w a b k = 0 ∨ rf_li w b k < rf_bst w a b k - 1)) : nI (rf_li w b k) = am_oi (rf_bst w a b (k + 1)) := by rw [rf_bst, if_pos h]; exact (am_oi_s _).symm
theorem rf_bst_n {w : rf_W} {a b k : Nat} (h : ¬ (rf_race (rf_rc w b (rf_wo (2 ^ rf_kn w b - 1) k)) (rf_rc w a (2 ^ rf_kn w a - 1)) = false ∧ (rf_bst w a b k = 0 ∨ rf_li w b k < rf_bst w a b k - 1))) : am_oi (rf_bst w a b k) = am_oi (rf_bst w a b (k + 1)) := by rw [rf_bst, if_neg h]
theorem rf_bst_le {w : rf_W} {a b : Nat} (hI : rf_Is w b) : ∀ k, k ≤ rf_kn w b → rf_bst w a b k ≤ rf_M w
  | 0, _ => Nat.zero_le _
  | k + 1, h => by
    have ih := rf_bst_le (a := a) hI k (by omega)
    have hl := rf_li_lt hI (show k < rf_kn w b by omega)
    rw [rf_bst]
    split <;> omega

def rf_c_duel (w : rf_W) (a : Int32) (b : Int32) : Nat := rf_cb (!rf_okN a (rf_S w)) 1 (rf_cb (!rf_okN b (rf_S w)) 1 (rf_cb (decide (a = b)) 2 (0)))
def rf_a_duel (w : rf_W) (a : Int32) (b : Int32) : Int32 := bif rf_many w (rf_nat a) (rf_nat b) then -3 else bif rf_race (rf_rc w (rf_nat a) (2 ^ rf_kn w (rf_nat a) - 1)) (rf_rc w (rf_nat b) (2 ^ rf_kn w (rf_nat b) - 1)) then nI (rf_nat a) else nI (rf_nat b)
def rf_c_best (w : rf_W) (a : Int32) (b : Int32) : Nat := rf_cb (!rf_okN a (rf_S w)) 1 (rf_cb (!rf_okN b (rf_S w)) 1 (rf_cb (decide (a = b)) 2 (0)))
def rf_a_best (w : rf_W) (a : Int32) (b : Int32) : Int32 := bif rf_many w (rf_nat a) (rf_nat b) then -3 else if 0 < rf_rc w (rf_nat a) (2 ^ rf_kn w (rf_nat a) - 1) then am_oi (rf_bst w (rf_nat a) (rf_nat b) (rf_kn w (rf_nat b))) else -1
set_option maxHeartbeats 400000 in
set_option maxRecDepth 100000 in
theorem c_X12_isWon {ad : Nat → Nat} {r : am_R} (hR : am_rs r) {h : am_H} (t : Nat) (m : Nat) (o : Nat) (ht : t < 2) (hm : m < 128) (ho : o < 128)  : am_CM mX12_isWon 1 0 0 [.ref 322, .int (nI t), .int (nI m), .int (nI o)] (am_VV ad) r h (am_po (some (.int (am_b (rf_iw (h 332) (h 331) t m o)))) r h) := by
  refine am_CM.of (by decide +kernel) (Nat.le_of_ble_eq_true rfl) (fun X C T => ?_)
  show am_G X (am_VV ad) (0, 0) 0 [(0, .ref 322), (1, .int (nI t)), (2, .int (nI m)), (3, .int (nI o))] [] r h
  refine am_aload_n (pc := 0) C dX12_isWon_0 rfl ?_
  refine am_getR (pc := 1) (j := 332) C dX12_isWon_1 f12_47 bn_322 sh_322 (rf_322_19 hR) ?_
  refine am_sipush (pc := 4) (v := nI 128) C dX12_isWon_4 (by decide) ?_
  refine am_iload_n (pc := 7) C dX12_isWon_7 rfl ?_
  refine am_imulN (pc := 8) C dX12_isWon_8 ?_
  refine am_iload_n (pc := 9) C dX12_isWon_9 rfl ?_
  refine am_iaddN (pc := 10) C dX12_isWon_10 ?_
  refine am_zaload (pc := 11) C dX12_isWon_11 bn_332 sh_332 (vp_in_nI (by omega) (by decide)) ?_
  refine am_top (show (h 332) (nI ((128 * t) + m)).toNatClampNeg = (h 332) ((128 * t) + m) from by rw [nI_clamp (by omega)]) ?_
  refine am_if_ne (pc := 12) (tgt := 17) C dX12_isWon_12 (by decide) (fun q12 => ?_) (fun q12 => ?_)
  · skip
    refine am_iload_n (pc := 17) C dX12_isWon_17 rfl ?_
    refine am_if_neN (pc := 18) (tgt := 25) C dX12_isWon_18 (by decide) (by omega) (fun q18 => ?_) (fun q18 => ?_)
    · skip
      refine am_iconstN (pc := 25) (k := 0) C dX12_isWon_25 ?_
      refine am_top (show (nI 0) = (am_b (decide (o = 0))) from (by rw [decide_eq_false (by omega)]; rfl)) ?_
      refine am_istore (pc := 26) (ls' := [(0, .ref 322), (1, .int (nI t)), (2, .int (nI m)), (3, .int (nI o)), (4, .int (am_b (decide (o = 0))))]) C dX12_isWon_26 (by decide) rfl ?_
      refine am_iconstN (pc := 28) (k := 0) C dX12_isWon_28 ?_
      refine am_istore (pc := 29) (ls' := [(0, .ref 322), (1, .int (nI t)), (2, .int (nI m)), (3, .int (nI o)), (4, .int (am_b (decide (o = 0)))), (5, .int (nI 0))]) C dX12_isWon_29 (by decide) rfl ?_
      have L31 : ∀ (j31 i31 : Nat), i31 + j31 = 7 → am_G X (am_VV ad) (0, 0) 31 [(0, .ref 322), (1, .int (nI t)), (2, .int (nI m)), (3, .int (nI o)), (4, .int (am_b (rf_iwk (h 331) t m o i31))), (5, .int (nI i31))] [] r h := by
        intro j31
        induction j31 with
        | zero =>
          intro i31 hi31 
          obtain rfl : i31 = 7 := by omega
          refine am_iload (pc := 31) C dX12_isWon_31 rfl ?_
          refine am_bipush (pc := 33) (v := nI 7) C dX12_isWon_33 (by decide) ?_
          refine am_icmp_geN (pc := 35) (tgt := 88) C dX12_isWon_35 (by decide) (by omega) (by omega) (fun q35 => ?_) (fun q35 => ?_)
          · skip
            refine am_iload (pc := 88) C dX12_isWon_88 rfl ?_
            exact am_iretb T dX12_isWon_90 rfl (Nat.le_refl _) (Nat.le_refl _) (by rw [rf_iw, decide_eq_true q12, Bool.true_and]) rfl rfl
          · skip
            exact absurd q35 (by omega)
        | succ j31 ih31 =>
          intro i31 hi31 
          have hl31 : i31 < 7 := by omega
          have hwo9 := rf_wo_eq (k := i31) ho
          have hwo8 : rf_wo o i31 < 128 := rf_wo_lt (j := 7) (by omega) ho
          refine am_iload (pc := 31) C dX12_isWon_31 rfl ?_
          refine am_bipush (pc := 33) (v := nI 7) C dX12_isWon_33 (by decide) ?_
          refine am_icmp_geN (pc := 35) (tgt := 88) C dX12_isWon_35 (by decide) (by omega) (by omega) (fun q35 => ?_) (fun q35 => ?_)
          · skip
            exact absurd q35 (by omega)
          · skip
            refine am_iload (pc := 38) C dX12_isWon_38 rfl ?_
            refine am_if_neB (pc := 40) (tgt := 75) C dX12_isWon_40 (by decide) (fun q40 => ?_) (fun q40 => ?_)
            · skip
              refine am_iconstN (pc := 75) (k := 1) C dX12_isWon_75 ?_
              refine am_goto (pc := 76) (tgt := 80) C dX12_isWon_76 (by decide) ?_
              refine am_istore (pc := 80) (ls' := [(0, .ref 322), (1, .int (nI t)), (2, .int (nI m)), (3, .int (nI o)), (4, .int (nI 1)), (5, .int (nI i31))]) C dX12_isWon_80 (by decide) rfl ?_
              refine am_iincN (pc := 82) (ls' := [(0, .ref 322), (1, .int (nI t)), (2, .int (nI m)), (3, .int (nI o)), (4, .int (nI 1)), (5, .int (nI (i31 + 1)))]) C dX12_isWon_82 rfl (am_up1 _) (by decide) rfl ?_
              refine am_goto (pc := 85) (tgt := 31) C dX12_isWon_85 (by decide) ?_
              refine am_lsv (ls' := [(0, .ref 322), (1, .int (nI t)), (2, .int (nI m)), (3, .int (nI o)), (4, .int (am_b (rf_iwk (h 331) t m o (i31 + 1)))), (5, .int (nI (i31 + 1)))]) (by rw [show (nI 1) = (am_b (rf_iwk (h 331) t m o (i31 + 1))) from (by rw [rf_iwk, q40]; rfl)]) ?_
              exact ih31 (i31 + 1) (by omega) 
            · skip
              refine am_iload_n (pc := 43) C dX12_isWon_43 rfl ?_
              refine am_iload (pc := 44) C dX12_isWon_44 rfl ?_
              refine am_callSi (Y := mX12_has) (pc := 46) (st := []) (As := [.int (nI o), .int (nI i31)]) (x := (am_b (am_bt (nI o) i31))) (h2 := h) C dX12_isWon_46 k12_81 v_X12_has rfl rfl (by decide) (Nat.zero_le _) (Nat.zero_le _) (Nat.le_of_ble_eq_true rfl) (c_X12_has hR (nI o) i31 (show i31 < 32 from by omega)) ?_
              refine am_if_eqB (pc := 49) (tgt := 79) C dX12_isWon_49 (by decide) (fun q49 => ?_) (fun q49 => ?_)
              · skip
                refine am_iconstN (pc := 79) (k := 0) C dX12_isWon_79 ?_
                refine am_istore (pc := 80) (ls' := [(0, .ref 322), (1, .int (nI t)), (2, .int (nI m)), (3, .int (nI o)), (4, .int (nI 0)), (5, .int (nI i31))]) C dX12_isWon_80 (by decide) rfl ?_
                refine am_iincN (pc := 82) (ls' := [(0, .ref 322), (1, .int (nI t)), (2, .int (nI m)), (3, .int (nI o)), (4, .int (nI 0)), (5, .int (nI (i31 + 1)))]) C dX12_isWon_82 rfl (am_up1 _) (by decide) rfl ?_
                refine am_goto (pc := 85) (tgt := 31) C dX12_isWon_85 (by decide) ?_
                refine am_lsv (ls' := [(0, .ref 322), (1, .int (nI t)), (2, .int (nI m)), (3, .int (nI o)), (4, .int (am_b (rf_iwk (h 331) t m o (i31 + 1)))), (5, .int (nI (i31 + 1)))]) (by rw [show (nI 0) = (am_b (rf_iwk (h 331) t m o (i31 + 1))) from (by rw [rf_iwk, q40, q49]; rfl)]) ?_
                exact ih31 (i31 + 1) (by omega) 
              · skip
                refine am_aload_n (pc := 52) C dX12_isWon_52 rfl ?_
                refine am_getR (pc := 53) (j := 331) C dX12_isWon_53 f12_43 bn_322 sh_322 (rf_322_18 hR) ?_
                refine am_iconstN (pc := 56) (k := 1) C dX12_isWon_56 ?_
                refine am_iload_n (pc := 57) C dX12_isWon_57 rfl ?_
                refine am_isubN (pc := 58) C dX12_isWon_58 (by omega) ?_
                refine am_iload_n (pc := 59) C dX12_isWon_59 rfl ?_
                refine am_iconstN (pc := 60) (k := 1) C dX12_isWon_60 ?_
                refine am_iload (pc := 61) C dX12_isWon_61 rfl ?_
                refine am_ishl (pc := 63) C dX12_isWon_63 ?_
                refine am_iconst (pc := 64) (v := -1) C dX12_isWon_64 rfl ?_
                refine am_ixor (pc := 65) C dX12_isWon_65 ?_
                refine am_iand (pc := 66) C dX12_isWon_66 ?_
                refine am_top (show ((nI o) &&& (((nI 1) <<< ((nI i31) &&& 31)) ^^^ (-1))) = (nI (rf_wo o i31)) from hwo9) ?_
                refine am_iload_n (pc := 67) C dX12_isWon_67 rfl ?_
                refine am_callSi (Y := mX12_duelAt) (pc := 68) (st := [.ref 331]) (As := [.int (nI (1 - t)), .int (nI (rf_wo o i31)), .int (nI m)]) (x := (nI (((1 - t) * 128 + (rf_wo o i31)) * 128 + m))) (h2 := h) C dX12_isWon_68 k12_405 v_X12_duelAt rfl rfl (by decide) (Nat.zero_le _) (Nat.zero_le _) (Nat.le_of_ble_eq_true rfl) (c_X12_duelAt hR (1 - t) (rf_wo o i31) m) ?_
                refine am_zaload (pc := 71) C dX12_isWon_71 bn_331 sh_331 (vp_in_nI (by omega) (by decide)) ?_
                refine am_top (show (h 331) (nI (((1 - t) * 128 + (rf_wo o i31)) * 128 + m)).toNatClampNeg = (h 331) (((1 - t) * 128 + (rf_wo o i31)) * 128 + m) from by rw [nI_clamp (by omega)]) ?_
                refine am_if_ne (pc := 72) (tgt := 79) C dX12_isWon_72 (by decide) (fun q72 => ?_) (fun q72 => ?_)
                · skip
                  refine am_iconstN (pc := 79) (k := 0) C dX12_isWon_79 ?_
                  refine am_istore (pc := 80) (ls' := [(0, .ref 322), (1, .int (nI t)), (2, .int (nI m)), (3, .int (nI o)), (4, .int (nI 0)), (5, .int (nI i31))]) C dX12_isWon_80 (by decide) rfl ?_
                  refine am_iincN (pc := 82) (ls' := [(0, .ref 322), (1, .int (nI t)), (2, .int (nI m)), (3, .int (nI o)), (4, .int (nI 0)), (5, .int (nI (i31 + 1)))]) C dX12_isWon_82 rfl (am_up1 _) (by decide) rfl ?_
                  refine am_goto (pc := 85) (tgt := 31) C dX12_isWon_85 (by decide) ?_
                  refine am_lsv (ls' := [(0, .ref 322), (1, .int (nI t)), (2, .int (nI m)), (3, .int (nI o)), (4, .int (am_b (rf_iwk (h 331) t m o (i31 + 1)))), (5, .int (nI (i31 + 1)))]) (by rw [show (nI 0) = (am_b (rf_iwk (h 331) t m o (i31 + 1))) from (by rw [rf_iwk, q40, q49, decide_eq_false (show ¬ h 331 (rf_D (1 - t) (rf_wo o i31) m) = 0 from q72)]; rfl)]) ?_
                  exact ih31 (i31 + 1) (by omega) 
                · skip
                  refine am_iconstN (pc := 75) (k := 1) C dX12_isWon_75 ?_
                  refine am_goto (pc := 76) (tgt := 80) C dX12_isWon_76 (by decide) ?_
                  refine am_istore (pc := 80) (ls' := [(0, .ref 322), (1, .int (nI t)), (2, .int (nI m)), (3, .int (nI o)), (4, .int (nI 1)), (5, .int (nI i31))]) C dX12_isWon_80 (by decide) rfl ?_
                  refine am_iincN (pc := 82) (ls' := [(0, .ref 322), (1, .int (nI t)), (2, .int (nI m)), (3, .int (nI o)), (4, .int (nI 1)), (5, .int (nI (i31 + 1)))]) C dX12_isWon_82 rfl (am_up1 _) (by decide) rfl ?_
                  refine am_goto (pc := 85) (tgt := 31) C dX12_isWon_85 (by decide) ?_
                  refine am_lsv (ls' := [(0, .ref 322), (1, .int (nI t)), (2, .int (nI m)), (3, .int (nI o)), (4, .int (am_b (rf_iwk (h 331) t m o (i31 + 1)))), (5, .int (nI (i31 + 1)))]) (by rw [show (nI 1) = (am_b (rf_iwk (h 331) t m o (i31 + 1))) from (by rw [rf_iwk, q40, q49, decide_eq_true (show h 331 (rf_D (1 - t) (rf_wo o i31) m) = 0 from q72)]; rfl)]) ?_
                  exact ih31 (i31 + 1) (by omega) 
      refine am_lsv (ls' := [(0, .ref 322), (1, .int (nI t)), (2, .int (nI m)), (3, .int (nI o)), (4, .int (am_b (rf_iwk (h 331) t m o 0))), (5, .int (nI 0))]) (by rw [show (am_b (decide (o = 0))) = (am_b (rf_iwk (h 331) t m o 0)) from rfl]) ?_
      exact L31 7 0 (by omega) 
    · skip
      refine am_iconstN (pc := 21) (k := 1) C dX12_isWon_21 ?_
      refine am_goto (pc := 22) (tgt := 26) C dX12_isWon_22 (by decide) ?_
      refine am_top (show (nI 1) = (am_b (decide (o = 0))) from (by rw [decide_eq_true (by omega)]; rfl)) ?_
      refine am_istore (pc := 26) (ls' := [(0, .ref 322), (1, .int (nI t)), (2, .int (nI m)), (3, .int (nI o)), (4, .int (am_b (decide (o = 0))))]) C dX12_isWon_26 (by decide) rfl ?_
      refine am_iconstN (pc := 28) (k := 0) C dX12_isWon_28 ?_
      refine am_istore (pc := 29) (ls' := [(0, .ref 322), (1, .int (nI t)), (2, .int (nI m)), (3, .int (nI o)), (4, .int (am_b (decide (o = 0)))), (5, .int (nI 0))]) C dX12_isWon_29 (by decide) rfl ?_
      have L31 : ∀ (j31 i31 : Nat), i31 + j31 = 7 → am_G X (am_VV ad) (0, 0) 31 [(0, .ref 322), (1, .int (nI t)), (2, .int (nI m)), (3, .int (nI o)), (4, .int (am_b (rf_iwk (h 331) t m o i31))), (5, .int (nI i31))] [] r h := by
        intro j31
        induction j31 with
        | zero =>
          intro i31 hi31 
          obtain rfl : i31 = 7 := by omega
          refine am_iload (pc := 31) C dX12_isWon_31 rfl ?_
          refine am_bipush (pc := 33) (v := nI 7) C dX12_isWon_33 (by decide) ?_
          refine am_icmp_geN (pc := 35) (tgt := 88) C dX12_isWon_35 (by decide) (by omega) (by omega) (fun q35 => ?_) (fun q35 => ?_)
          · skip
            refine am_iload (pc := 88) C dX12_isWon_88 rfl ?_
            exact am_iretb T dX12_isWon_90 rfl (Nat.le_refl _) (Nat.le_refl _) (by rw [rf_iw, decide_eq_true q12, Bool.true_and]) rfl rfl
          · skip
            exact absurd q35 (by omega)
        | succ j31 ih31 =>
          intro i31 hi31 
          have hl31 : i31 < 7 := by omega
          have hwo9 := rf_wo_eq (k := i31) ho
          have hwo8 : rf_wo o i31 < 128 := rf_wo_lt (j := 7) (by omega) ho
          refine am_iload (pc := 31) C dX12_isWon_31 rfl ?_
          refine am_bipush (pc := 33) (v := nI 7) C dX12_isWon_33 (by decide) ?_
          refine am_icmp_geN (pc := 35) (tgt := 88) C dX12_isWon_35 (by decide) (by omega) (by omega) (fun q35 => ?_) (fun q35 => ?_)
          · skip
            exact absurd q35 (by omega)
          · skip
            refine am_iload (pc := 38) C dX12_isWon_38 rfl ?_
            refine am_if_neB (pc := 40) (tgt := 75) C dX12_isWon_40 (by decide) (fun q40 => ?_) (fun q40 => ?_)
            · skip
              refine am_iconstN (pc := 75) (k := 1) C dX12_isWon_75 ?_
              refine am_goto (pc := 76) (tgt := 80) C dX12_isWon_76 (by decide) ?_
              refine am_istore (pc := 80) (ls' := [(0, .ref 322), (1, .int (nI t)), (2, .int (nI m)), (3, .int (nI o)), (4, .int (nI 1)), (5, .int (nI i31))]) C dX12_isWon_80 (by decide) rfl ?_
              refine am_iincN (pc := 82) (ls' := [(0, .ref 322), (1, .int (nI t)), (2, .int (nI m)), (3, .int (nI o)), (4, .int (nI 1)), (5, .int (nI (i31 + 1)))]) C dX12_isWon_82 rfl (am_up1 _) (by decide) rfl ?_
              refine am_goto (pc := 85) (tgt := 31) C dX12_isWon_85 (by decide) ?_
              refine am_lsv (ls' := [(0, .ref 322), (1, .int (nI t)), (2, .int (nI m)), (3, .int (nI o)), (4, .int (am_b (rf_iwk (h 331) t m o (i31 + 1)))), (5, .int (nI (i31 + 1)))]) (by rw [show (nI 1) = (am_b (rf_iwk (h 331) t m o (i31 + 1))) from (by rw [rf_iwk, q40]; rfl)]) ?_
              exact ih31 (i31 + 1) (by omega) 
            · skip
              refine am_iload_n (pc := 43) C dX12_isWon_43 rfl ?_
              refine am_iload (pc := 44) C dX12_isWon_44 rfl ?_
              refine am_callSi (Y := mX12_has) (pc := 46) (st := []) (As := [.int (nI o), .int (nI i31)]) (x := (am_b (am_bt (nI o) i31))) (h2 := h) C dX12_isWon_46 k12_81 v_X12_has rfl rfl (by decide) (Nat.zero_le _) (Nat.zero_le _) (Nat.le_of_ble_eq_true rfl) (c_X12_has hR (nI o) i31 (show i31 < 32 from by omega)) ?_
              refine am_if_eqB (pc := 49) (tgt := 79) C dX12_isWon_49 (by decide) (fun q49 => ?_) (fun q49 => ?_)
              · skip
                refine am_iconstN (pc := 79) (k := 0) C dX12_isWon_79 ?_
                refine am_istore (pc := 80) (ls' := [(0, .ref 322), (1, .int (nI t)), (2, .int (nI m)), (3, .int (nI o)), (4, .int (nI 0)), (5, .int (nI i31))]) C dX12_isWon_80 (by decide) rfl ?_
                refine am_iincN (pc := 82) (ls' := [(0, .ref 322), (1, .int (nI t)), (2, .int (nI m)), (3, .int (nI o)), (4, .int (nI 0)), (5, .int (nI (i31 + 1)))]) C dX12_isWon_82 rfl (am_up1 _) (by decide) rfl ?_
                refine am_goto (pc := 85) (tgt := 31) C dX12_isWon_85 (by decide) ?_
                refine am_lsv (ls' := [(0, .ref 322), (1, .int (nI t)), (2, .int (nI m)), (3, .int (nI o)), (4, .int (am_b (rf_iwk (h 331) t m o (i31 + 1)))), (5, .int (nI (i31 + 1)))]) (by rw [show (nI 0) = (am_b (rf_iwk (h 331) t m o (i31 + 1))) from (by rw [rf_iwk, q40, q49]; rfl)]) ?_
                exact ih31 (i31 + 1) (by omega) 
              · skip
                refine am_aload_n (pc := 52) C dX12_isWon_52 rfl ?_
                refine am_getR (pc := 53) (j := 331) C dX12_isWon_53 f12_43 bn_322 sh_322 (rf_322_18 hR) ?_
                refine am_iconstN (pc := 56) (k := 1) C dX12_isWon_56 ?_
                refine am_iload_n (pc := 57) C dX12_isWon_57 rfl ?_
                refine am_isubN (pc := 58) C dX12_isWon_58 (by omega) ?_
                refine am_iload_n (pc := 59) C dX12_isWon_59 rfl ?_
                refine am_iconstN (pc := 60) (k := 1) C dX12_isWon_60 ?_
                refine am_iload (pc := 61) C dX12_isWon_61 rfl ?_
                refine am_ishl (pc := 63) C dX12_isWon_63 ?_
                refine am_iconst (pc := 64) (v := -1) C dX12_isWon_64 rfl ?_
                refine am_ixor (pc := 65) C dX12_isWon_65 ?_
                refine am_iand (pc := 66) C dX12_isWon_66 ?_
                refine am_top (show ((nI o) &&& (((nI 1) <<< ((nI i31) &&& 31)) ^^^ (-1))) = (nI (rf_wo o i31)) from hwo9) ?_
                refine am_iload_n (pc := 67) C dX12_isWon_67 rfl ?_
                refine am_callSi (Y := mX12_duelAt) (pc := 68) (st := [.ref 331]) (As := [.int (nI (1 - t)), .int (nI (rf_wo o i31)), .int (nI m)]) (x := (nI (((1 - t) * 128 + (rf_wo o i31)) * 128 + m))) (h2 := h) C dX12_isWon_68 k12_405 v_X12_duelAt rfl rfl (by decide) (Nat.zero_le _) (Nat.zero_le _) (Nat.le_of_ble_eq_true rfl) (c_X12_duelAt hR (1 - t) (rf_wo o i31) m) ?_
                refine am_zaload (pc := 71) C dX12_isWon_71 bn_331 sh_331 (vp_in_nI (by omega) (by decide)) ?_
                refine am_top (show (h 331) (nI (((1 - t) * 128 + (rf_wo o i31)) * 128 + m)).toNatClampNeg = (h 331) (((1 - t) * 128 + (rf_wo o i31)) * 128 + m) from by rw [nI_clamp (by omega)]) ?_
                refine am_if_ne (pc := 72) (tgt := 79) C dX12_isWon_72 (by decide) (fun q72 => ?_) (fun q72 => ?_)
                · skip
                  refine am_iconstN (pc := 79) (k := 0) C dX12_isWon_79 ?_
                  refine am_istore (pc := 80) (ls' := [(0, .ref 322), (1, .int (nI t)), (2, .int (nI m)), (3, .int (nI o)), (4, .int (nI 0)), (5, .int (nI i31))]) C dX12_isWon_80 (by decide) rfl ?_
                  refine am_iincN (pc := 82) (ls' := [(0, .ref 322), (1, .int (nI t)), (2, .int (nI m)), (3, .int (nI o)), (4, .int (nI 0)), (5, .int (nI (i31 + 1)))]) C dX12_isWon_82 rfl (am_up1 _) (by decide) rfl ?_
                  refine am_goto (pc := 85) (tgt := 31) C dX12_isWon_85 (by decide) ?_
                  refine am_lsv (ls' := [(0, .ref 322), (1, .int (nI t)), (2, .int (nI m)), (3, .int (nI o)), (4, .int (am_b (rf_iwk (h 331) t m o (i31 + 1)))), (5, .int (nI (i31 + 1)))]) (by rw [show (nI 0) = (am_b (rf_iwk (h 331) t m o (i31 + 1))) from (by rw [rf_iwk, q40, q49, decide_eq_false (show ¬ h 331 (rf_D (1 - t) (rf_wo o i31) m) = 0 from q72)]; rfl)]) ?_
                  exact ih31 (i31 + 1) (by omega) 
                · skip
                  refine am_iconstN (pc := 75) (k := 1) C dX12_isWon_75 ?_
                  refine am_goto (pc := 76) (tgt := 80) C dX12_isWon_76 (by decide) ?_
                  refine am_istore (pc := 80) (ls' := [(0, .ref 322), (1, .int (nI t)), (2, .int (nI m)), (3, .int (nI o)), (4, .int (nI 1)), (5, .int (nI i31))]) C dX12_isWon_80 (by decide) rfl ?_
                  refine am_iincN (pc := 82) (ls' := [(0, .ref 322), (1, .int (nI t)), (2, .int (nI m)), (3, .int (nI o)), (4, .int (nI 1)), (5, .int (nI (i31 + 1)))]) C dX12_isWon_82 rfl (am_up1 _) (by decide) rfl ?_
                  refine am_goto (pc := 85) (tgt := 31) C dX12_isWon_85 (by decide) ?_
                  refine am_lsv (ls' := [(0, .ref 322), (1, .int (nI t)), (2, .int (nI m)), (3, .int (nI o)), (4, .int (am_b (rf_iwk (h 331) t m o (i31 + 1)))), (5, .int (nI (i31 + 1)))]) (by rw [show (nI 1) = (am_b (rf_iwk (h 331) t m o (i31 + 1))) from (by rw [rf_iwk, q40, q49, decide_eq_true (show h 331 (rf_D (1 - t) (rf_wo o i31) m) = 0 from q72)]; rfl)]) ?_
                  exact ih31 (i31 + 1) (by omega) 
      refine am_lsv (ls' := [(0, .ref 322), (1, .int (nI t)), (2, .int (nI m)), (3, .int (nI o)), (4, .int (am_b (rf_iwk (h 331) t m o 0))), (5, .int (nI 0))]) (by rw [show (am_b (decide (o = 0))) = (am_b (rf_iwk (h 331) t m o 0)) from rfl]) ?_
      exact L31 7 0 (by omega) 
  · skip
    refine am_iconstN (pc := 15) (k := 0) C dX12_isWon_15 ?_
    exact am_iretb T dX12_isWon_16 rfl (Nat.le_refl _) (Nat.le_refl _) (by rw [rf_iw, decide_eq_false (fun z => z q12)]; rfl) rfl rfl

set_option maxHeartbeats 400000 in
set_option maxRecDepth 100000 in
theorem c_X12_duels {ad : Nat → Nat} {r : am_R} (hR : am_rs r) {h : am_H} (a : Nat) (b : Nat) (hV : rf_I (h 323)) (ha : a < rf_S (h 323)) (hb : b < rf_S (h 323)) (ha7 : rf_kn (h 323) a ≤ 7) (hb7 : rf_kn (h 323) b ≤ 7)  : am_CM mX12_duels 2 0 0 [.ref 322, .int (nI a), .int (nI b)] (am_VV ad) r h (am_po none r (am_row (am_row h 332 (rf_dF (h 323) (h 332) a b)) 331 (rf_dW (h 323) (h 332) (h 331) a b))) := by
  refine am_CM.of (by decide +kernel) (Nat.le_of_ble_eq_true rfl) (fun X C T => ?_)
  show am_G X (am_VV ad) (0, 0) 0 [(0, .ref 322), (1, .int (nI a)), (2, .int (nI b))] [] r h
  have hM9 : rf_M (h 323) < 17 := hV.1.1.2
  have hS9 : rf_S (h 323) < 11 := hV.1.2.1.2
  have hO9 : rf_O (h 323) < 11 := hV.1.2.2.2
  have hpa : (2 ^ rf_kn (h 323) a) ≤ 2 ^ 7 := Nat.pow_le_pow_right (by decide) ha7
  have hpb : (2 ^ rf_kn (h 323) b) ≤ 2 ^ 7 := Nat.pow_le_pow_right (by decide) hb7
  refine am_iconstN (pc := 0) (k := 1) C dX12_duels_0 ?_
  refine am_aload_n (pc := 1) C dX12_duels_1 rfl ?_
  refine am_iload_n (pc := 2) C dX12_duels_2 rfl ?_
  refine am_bipush (pc := 3) (v := nI 9) C dX12_duels_3 (by decide) ?_
  refine am_callVi (Y := mX12_of) (pc := 5) (st := [.int (nI 1)]) (As := [.int (nI a), .int (nI 9)]) (x := (rf_of (h 323) a 9)) (h2 := h) C dX12_duels_5 k12_63 v_X12_of rfl rfl bn_322 sh_322 ⟨by decide, rfl⟩ (by decide) (Nat.zero_le _) (Nat.zero_le _) (Nat.le_of_ble_eq_true rfl) (c_X12_of hR a 9 (show a < 11 from by omega) (show 9 < 23 from by omega)) ?_
  refine am_top (show (rf_of (h 323) a 9) = (nI (rf_kn (h 323) a)) from (hV.2.1 a ha).2.2.2.2.1.1) ?_
  refine am_ishl (pc := 8) C dX12_duels_8 ?_
  refine am_top (show ((nI 1) <<< ((nI (rf_kn (h 323) a)) &&& 31)) = (nI (2 ^ rf_kn (h 323) a)) from (am_shl1 (by omega))) ?_
  refine am_istore_n (pc := 9) (ls' := [(0, .ref 322), (1, .int (nI a)), (2, .int (nI b)), (3, .int (nI (2 ^ rf_kn (h 323) a)))]) C dX12_duels_9 (by decide) rfl ?_
  refine am_iconstN (pc := 10) (k := 1) C dX12_duels_10 ?_
  refine am_aload_n (pc := 11) C dX12_duels_11 rfl ?_
  refine am_iload_n (pc := 12) C dX12_duels_12 rfl ?_
  refine am_bipush (pc := 13) (v := nI 9) C dX12_duels_13 (by decide) ?_
  refine am_callVi (Y := mX12_of) (pc := 15) (st := [.int (nI 1)]) (As := [.int (nI b), .int (nI 9)]) (x := (rf_of (h 323) b 9)) (h2 := h) C dX12_duels_15 k12_63 v_X12_of rfl rfl bn_322 sh_322 ⟨by decide, rfl⟩ (by decide) (Nat.zero_le _) (Nat.zero_le _) (Nat.le_of_ble_eq_true rfl) (c_X12_of hR b 9 (show b < 11 from by omega) (show 9 < 23 from by omega)) ?_
  refine am_top (show (rf_of (h 323) b 9) = (nI (rf_kn (h 323) b)) from (hV.2.1 b hb).2.2.2.2.1.1) ?_
  refine am_ishl (pc := 18) C dX12_duels_18 ?_
  refine am_top (show ((nI 1) <<< ((nI (rf_kn (h 323) b)) &&& 31)) = (nI (2 ^ rf_kn (h 323) b)) from (am_shl1 (by omega))) ?_
  refine am_istore (pc := 19) (ls' := [(0, .ref 322), (1, .int (nI a)), (2, .int (nI b)), (3, .int (nI (2 ^ rf_kn (h 323) a))), (4, .int (nI (2 ^ rf_kn (h 323) b)))]) C dX12_duels_19 (by decide) rfl ?_
  refine am_iconstN (pc := 21) (k := 0) C dX12_duels_21 ?_
  refine am_istore (pc := 22) (ls' := [(0, .ref 322), (1, .int (nI a)), (2, .int (nI b)), (3, .int (nI (2 ^ rf_kn (h 323) a))), (4, .int (nI (2 ^ rf_kn (h 323) b))), (5, .int (nI 0))]) C dX12_duels_22 (by decide) rfl ?_
  have L24 : ∀ (j24 i24 : Nat), i24 + j24 = (2 ^ rf_kn (h 323) a) → am_G X (am_VV ad) (0, 0) 24 [(0, .ref 322), (1, .int (nI a)), (2, .int (nI b)), (3, .int (nI (2 ^ rf_kn (h 323) a))), (4, .int (nI (2 ^ rf_kn (h 323) b))), (5, .int (nI i24))] [] r (am_row h 332 (rf_fl (h 332) 0 (rf_fgt (h 323) a) i24)) := by
    intro j24
    induction j24 with
    | zero =>
      intro i24 hi24 
      obtain rfl : i24 = (2 ^ rf_kn (h 323) a) := by omega
      refine am_iload (pc := 24) C dX12_duels_24 rfl ?_
      refine am_iload_n (pc := 26) C dX12_duels_26 rfl ?_
      refine am_icmp_geN (pc := 27) (tgt := 62) C dX12_duels_27 (by decide) (by omega) (by omega) (fun q27 => ?_) (fun q27 => ?_)
      · skip
        refine am_iconstN (pc := 62) (k := 0) C dX12_duels_62 ?_
        refine am_istore (pc := 63) (ls' := [(0, .ref 322), (1, .int (nI a)), (2, .int (nI b)), (3, .int (nI (2 ^ rf_kn (h 323) a))), (4, .int (nI (2 ^ rf_kn (h 323) b))), (5, .int (nI 0))]) C dX12_duels_63 (by decide) rfl ?_
        have L65 : ∀ (j65 i65 : Nat), i65 + j65 = (2 ^ rf_kn (h 323) b) → am_G X (am_VV ad) (0, 0) 65 [(0, .ref 322), (1, .int (nI a)), (2, .int (nI b)), (3, .int (nI (2 ^ rf_kn (h 323) a))), (4, .int (nI (2 ^ rf_kn (h 323) b))), (5, .int (nI i65))] [] r (am_row h 332 (rf_fl (rf_fl (h 332) 0 (rf_fgt (h 323) a) (2 ^ rf_kn (h 323) a)) 128 (rf_fgt (h 323) b) i65)) := by
          intro j65
          induction j65 with
          | zero =>
            intro i65 hi65 
            obtain rfl : i65 = (2 ^ rf_kn (h 323) b) := by omega
            refine am_iload (pc := 65) C dX12_duels_65 rfl ?_
            refine am_iload (pc := 67) C dX12_duels_67 rfl ?_
            refine am_icmp_geN (pc := 69) (tgt := 108) C dX12_duels_69 (by decide) (by omega) (by omega) (fun q69 => ?_) (fun q69 => ?_)
            · skip
              refine am_hp (show (am_row h 332 (rf_fl (rf_fl (h 332) 0 (rf_fgt (h 323) a) (2 ^ rf_kn (h 323) a)) 128 (rf_fgt (h 323) b) (2 ^ rf_kn (h 323) b))) = (am_row h 332 (rf_dF (h 323) (h 332) a b)) from rfl) ?_
              refine am_iconstN (pc := 108) (k := 0) C dX12_duels_108 ?_
              refine am_istore (pc := 109) (ls' := [(0, .ref 322), (1, .int (nI a)), (2, .int (nI b)), (3, .int (nI (2 ^ rf_kn (h 323) a))), (4, .int (nI (2 ^ rf_kn (h 323) b))), (5, .int (nI 0))]) C dX12_duels_109 (by decide) rfl ?_
              have L111 : ∀ (j111 i111 : Nat), i111 + j111 = 15 → am_G X (am_VV ad) (0, 0) 111 [(0, .ref 322), (1, .int (nI a)), (2, .int (nI b)), (3, .int (nI (2 ^ rf_kn (h 323) a))), (4, .int (nI (2 ^ rf_kn (h 323) b))), (5, .int (nI i111))] [] r (am_row (am_row h 332 (rf_dF (h 323) (h 332) a b)) 331 (rf_dn (rf_dF (h 323) (h 332) a b) (2 ^ rf_kn (h 323) a) (2 ^ rf_kn (h 323) b) i111 (h 331))) := by
                intro j111
                induction j111 with
                | zero =>
                  intro i111 hi111 
                  obtain rfl : i111 = 15 := by omega
                  refine am_iload (pc := 111) C dX12_duels_111 rfl ?_
                  refine am_bipush (pc := 113) (v := nI 14) C dX12_duels_113 (by decide) ?_
                  refine am_icmp_gtN (pc := 115) (tgt := 218) C dX12_duels_115 (by decide) (by omega) (by omega) (fun q115 => ?_) (fun q115 => ?_)
                  · skip
                    exact am_vretv T dX12_duels_218 rfl (Nat.le_refl _) (Nat.le_refl _) rfl rfl
                  · skip
                    exact absurd q115 (by omega)
                | succ j111 ih111 =>
                  intro i111 hi111 
                  have hl111 : i111 < 15 := by omega
                  refine am_iload (pc := 111) C dX12_duels_111 rfl ?_
                  refine am_bipush (pc := 113) (v := nI 14) C dX12_duels_113 (by decide) ?_
                  refine am_icmp_gtN (pc := 115) (tgt := 218) C dX12_duels_115 (by decide) (by omega) (by omega) (fun q115 => ?_) (fun q115 => ?_)
                  · skip
                    exact absurd q115 (by omega)
                  · skip
                    refine am_iconstN (pc := 118) (k := 0) C dX12_duels_118 ?_
                    refine am_istore (pc := 119) (ls' := [(0, .ref 322), (1, .int (nI a)), (2, .int (nI b)), (3, .int (nI (2 ^ rf_kn (h 323) a))), (4, .int (nI (2 ^ rf_kn (h 323) b))), (5, .int (nI i111)), (6, .int (nI 0))]) C dX12_duels_119 (by decide) rfl ?_
                    have L121 : ∀ (j121 i121 : Nat), i121 + j121 = (2 ^ rf_kn (h 323) a) → am_G X (am_VV ad) (0, 0) 121 [(0, .ref 322), (1, .int (nI a)), (2, .int (nI b)), (3, .int (nI (2 ^ rf_kn (h 323) a))), (4, .int (nI (2 ^ rf_kn (h 323) b))), (5, .int (nI i111)), (6, .int (nI i121))] [] r (am_row (am_row h 332 (rf_dF (h 323) (h 332) a b)) 331 (rf_da (rf_dF (h 323) (h 332) a b) i111 (2 ^ rf_kn (h 323) b) i121 (rf_dn (rf_dF (h 323) (h 332) a b) (2 ^ rf_kn (h 323) a) (2 ^ rf_kn (h 323) b) i111 (h 331)))) := by
                      intro j121
                      induction j121 with
                      | zero =>
                        intro i121 hi121 
                        obtain rfl : i121 = (2 ^ rf_kn (h 323) a) := by omega
                        refine am_iload (pc := 121) C dX12_duels_121 rfl ?_
                        refine am_iload_n (pc := 123) C dX12_duels_123 rfl ?_
                        refine am_icmp_geN (pc := 124) (tgt := 212) C dX12_duels_124 (by decide) (by omega) (by omega) (fun q124 => ?_) (fun q124 => ?_)
                        · skip
                          refine am_iincN (pc := 212) (ls' := [(0, .ref 322), (1, .int (nI a)), (2, .int (nI b)), (3, .int (nI (2 ^ rf_kn (h 323) a))), (4, .int (nI (2 ^ rf_kn (h 323) b))), (5, .int (nI (i111 + 1))), (6, .int (nI (2 ^ rf_kn (h 323) a)))]) C dX12_duels_212 rfl (am_up1 _) (by decide) rfl ?_
                          refine am_goto (pc := 215) (tgt := 111) C dX12_duels_215 (by decide) ?_
                          refine am_sub (ls' := [(0, .ref 322), (1, .int (nI a)), (2, .int (nI b)), (3, .int (nI (2 ^ rf_kn (h 323) a))), (4, .int (nI (2 ^ rf_kn (h 323) b))), (5, .int (nI (i111 + 1)))]) (by intro q hq; simp only [List.mem_cons, List.not_mem_nil, or_false] at hq ⊢; rcases hq with rfl | rfl | rfl | rfl | rfl | rfl <;> simp) ?_
                          refine am_hp (show (am_row (am_row h 332 (rf_dF (h 323) (h 332) a b)) 331 (rf_da (rf_dF (h 323) (h 332) a b) i111 (2 ^ rf_kn (h 323) b) (2 ^ rf_kn (h 323) a) (rf_dn (rf_dF (h 323) (h 332) a b) (2 ^ rf_kn (h 323) a) (2 ^ rf_kn (h 323) b) i111 (h 331)))) = (am_row (am_row h 332 (rf_dF (h 323) (h 332) a b)) 331 (rf_dn (rf_dF (h 323) (h 332) a b) (2 ^ rf_kn (h 323) a) (2 ^ rf_kn (h 323) b) (i111 + 1) (h 331))) from rfl) ?_
                          exact ih111 (i111 + 1) (by omega) 
                        · skip
                          exact absurd q124 (by omega)
                      | succ j121 ih121 =>
                        intro i121 hi121 
                        have hl121 : i121 < (2 ^ rf_kn (h 323) a) := by omega
                        refine am_iload (pc := 121) C dX12_duels_121 rfl ?_
                        refine am_iload_n (pc := 123) C dX12_duels_123 rfl ?_
                        refine am_icmp_geN (pc := 124) (tgt := 212) C dX12_duels_124 (by decide) (by omega) (by omega) (fun q124 => ?_) (fun q124 => ?_)
                        · skip
                          exact absurd q124 (by omega)
                        · skip
                          refine am_iconstN (pc := 127) (k := 0) C dX12_duels_127 ?_
                          refine am_istore (pc := 128) (ls' := [(0, .ref 322), (1, .int (nI a)), (2, .int (nI b)), (3, .int (nI (2 ^ rf_kn (h 323) a))), (4, .int (nI (2 ^ rf_kn (h 323) b))), (5, .int (nI i111)), (6, .int (nI i121)), (7, .int (nI 0))]) C dX12_duels_128 (by decide) rfl ?_
                          have L130 : ∀ (j130 i130 : Nat), i130 + j130 = (2 ^ rf_kn (h 323) b) → am_G X (am_VV ad) (0, 0) 130 [(0, .ref 322), (1, .int (nI a)), (2, .int (nI b)), (3, .int (nI (2 ^ rf_kn (h 323) a))), (4, .int (nI (2 ^ rf_kn (h 323) b))), (5, .int (nI i111)), (6, .int (nI i121)), (7, .int (nI i130))] [] r (am_row (am_row h 332 (rf_dF (h 323) (h 332) a b)) 331 (rf_db (rf_dF (h 323) (h 332) a b) i111 i121 i130 (rf_da (rf_dF (h 323) (h 332) a b) i111 (2 ^ rf_kn (h 323) b) i121 (rf_dn (rf_dF (h 323) (h 332) a b) (2 ^ rf_kn (h 323) a) (2 ^ rf_kn (h 323) b) i111 (h 331))))) := by
                            intro j130
                            induction j130 with
                            | zero =>
                              intro i130 hi130 
                              obtain rfl : i130 = (2 ^ rf_kn (h 323) b) := by omega
                              refine am_iload (pc := 130) C dX12_duels_130 rfl ?_
                              refine am_iload (pc := 132) C dX12_duels_132 rfl ?_
                              refine am_icmp_geN (pc := 134) (tgt := 206) C dX12_duels_134 (by decide) (by omega) (by omega) (fun q134 => ?_) (fun q134 => ?_)
                              · skip
                                refine am_iincN (pc := 206) (ls' := [(0, .ref 322), (1, .int (nI a)), (2, .int (nI b)), (3, .int (nI (2 ^ rf_kn (h 323) a))), (4, .int (nI (2 ^ rf_kn (h 323) b))), (5, .int (nI i111)), (6, .int (nI (i121 + 1))), (7, .int (nI (2 ^ rf_kn (h 323) b)))]) C dX12_duels_206 rfl (am_up1 _) (by decide) rfl ?_
                                refine am_goto (pc := 209) (tgt := 121) C dX12_duels_209 (by decide) ?_
                                refine am_sub (ls' := [(0, .ref 322), (1, .int (nI a)), (2, .int (nI b)), (3, .int (nI (2 ^ rf_kn (h 323) a))), (4, .int (nI (2 ^ rf_kn (h 323) b))), (5, .int (nI i111)), (6, .int (nI (i121 + 1)))]) (by intro q hq; simp only [List.mem_cons, List.not_mem_nil, or_false] at hq ⊢; rcases hq with rfl | rfl | rfl | rfl | rfl | rfl | rfl <;> simp) ?_
                                refine am_hp (show (am_row (am_row h 332 (rf_dF (h 323) (h 332) a b)) 331 (rf_db (rf_dF (h 323) (h 332) a b) i111 i121 (2 ^ rf_kn (h 323) b) (rf_da (rf_dF (h 323) (h 332) a b) i111 (2 ^ rf_kn (h 323) b) i121 (rf_dn (rf_dF (h 323) (h 332) a b) (2 ^ rf_kn (h 323) a) (2 ^ rf_kn (h 323) b) i111 (h 331))))) = (am_row (am_row h 332 (rf_dF (h 323) (h 332) a b)) 331 (rf_da (rf_dF (h 323) (h 332) a b) i111 (2 ^ rf_kn (h 323) b) (i121 + 1) (rf_dn (rf_dF (h 323) (h 332) a b) (2 ^ rf_kn (h 323) a) (2 ^ rf_kn (h 323) b) i111 (h 331)))) from rfl) ?_
                                exact ih121 (i121 + 1) (by omega) 
                              · skip
                                exact absurd q134 (by omega)
                            | succ j130 ih130 =>
                              intro i130 hi130 
                              have hl130 : i130 < (2 ^ rf_kn (h 323) b) := by omega
                              have hpi := rf_pop_le i121
                              have hpj := rf_pop_le i130
                              refine am_iload (pc := 130) C dX12_duels_130 rfl ?_
                              refine am_iload (pc := 132) C dX12_duels_132 rfl ?_
                              refine am_icmp_geN (pc := 134) (tgt := 206) C dX12_duels_134 (by decide) (by omega) (by omega) (fun q134 => ?_) (fun q134 => ?_)
                              · skip
                                exact absurd q134 (by omega)
                              · skip
                                refine am_iload (pc := 137) C dX12_duels_137 rfl ?_
                                refine am_callSi (Y := mJ6_bitCount_0f7a4) (pc := 139) (st := []) (As := [.int (nI i121)]) (x := (rf_pc (nI i121))) (h2 := (am_row (am_row h 332 (rf_dF (h 323) (h 332) a b)) 331 (rf_db (rf_dF (h 323) (h 332) a b) i111 i121 i130 (rf_da (rf_dF (h 323) (h 332) a b) i111 (2 ^ rf_kn (h 323) b) i121 (rf_dn (rf_dF (h 323) (h 332) a b) (2 ^ rf_kn (h 323) a) (2 ^ rf_kn (h 323) b) i111 (h 331)))))) C dX12_duels_139 k12_278 v_J6_bitCount_0f7a4 rfl rfl (by decide) (Nat.zero_le _) (Nat.zero_le _) (Nat.le_of_ble_eq_true rfl) (c_J6_bitCount_0f7a4 hR (nI i121)) ?_
                                refine am_top (show (rf_pc (nI i121)) = (nI (rf_pop i121)) from (rf_pop_eq (by omega))) ?_
                                refine am_iload (pc := 142) C dX12_duels_142 rfl ?_
                                refine am_callSi (Y := mJ6_bitCount_0f7a4) (pc := 144) (st := [.int (nI (rf_pop i121))]) (As := [.int (nI i130)]) (x := (rf_pc (nI i130))) (h2 := (am_row (am_row h 332 (rf_dF (h 323) (h 332) a b)) 331 (rf_db (rf_dF (h 323) (h 332) a b) i111 i121 i130 (rf_da (rf_dF (h 323) (h 332) a b) i111 (2 ^ rf_kn (h 323) b) i121 (rf_dn (rf_dF (h 323) (h 332) a b) (2 ^ rf_kn (h 323) a) (2 ^ rf_kn (h 323) b) i111 (h 331)))))) C dX12_duels_144 k12_278 v_J6_bitCount_0f7a4 rfl rfl (by decide) (Nat.zero_le _) (Nat.zero_le _) (Nat.le_of_ble_eq_true rfl) (c_J6_bitCount_0f7a4 hR (nI i130)) ?_
                                refine am_top (show (rf_pc (nI i130)) = (nI (rf_pop i130)) from (rf_pop_eq (by omega))) ?_
                                refine am_iaddN (pc := 147) C dX12_duels_147 ?_
                                refine am_iload (pc := 148) C dX12_duels_148 rfl ?_
                                refine am_icmp_eqN (pc := 150) (tgt := 156) C dX12_duels_150 (by decide) (by omega) (by omega) (fun q150 => ?_) (fun q150 => ?_)
                                · skip
                                  refine am_aload_n (pc := 156) C dX12_duels_156 rfl ?_
                                  refine am_getR (pc := 157) (j := 331) C dX12_duels_157 f12_43 bn_322 sh_322 (rf_322_18 hR) ?_
                                  refine am_iconstN (pc := 160) (k := 0) C dX12_duels_160 ?_
                                  refine am_iload (pc := 161) C dX12_duels_161 rfl ?_
                                  refine am_iload (pc := 163) C dX12_duels_163 rfl ?_
                                  refine am_callSi (Y := mX12_duelAt) (pc := 165) (st := [.ref 331]) (As := [.int (nI 0), .int (nI i121), .int (nI i130)]) (x := (nI ((0 * 128 + i121) * 128 + i130))) (h2 := (am_row (am_row h 332 (rf_dF (h 323) (h 332) a b)) 331 (rf_db (rf_dF (h 323) (h 332) a b) i111 i121 i130 (rf_da (rf_dF (h 323) (h 332) a b) i111 (2 ^ rf_kn (h 323) b) i121 (rf_dn (rf_dF (h 323) (h 332) a b) (2 ^ rf_kn (h 323) a) (2 ^ rf_kn (h 323) b) i111 (h 331)))))) C dX12_duels_165 k12_405 v_X12_duelAt rfl rfl (by decide) (Nat.zero_le _) (Nat.zero_le _) (Nat.le_of_ble_eq_true rfl) (c_X12_duelAt hR 0 i121 i130) ?_
                                  refine am_aload_n (pc := 168) C dX12_duels_168 rfl ?_
                                  refine am_iconstN (pc := 169) (k := 0) C dX12_duels_169 ?_
                                  refine am_iload (pc := 170) C dX12_duels_170 rfl ?_
                                  refine am_iload (pc := 172) C dX12_duels_172 rfl ?_
                                  refine am_callVi (Y := mX12_isWon) (pc := 174) (st := [.int (nI ((0 * 128 + i121) * 128 + i130)), .ref 331]) (As := [.int (nI 0), .int (nI i121), .int (nI i130)]) (x := (am_b (rf_iw (rf_dF (h 323) (h 332) a b) (rf_db (rf_dF (h 323) (h 332) a b) i111 i121 i130 (rf_da (rf_dF (h 323) (h 332) a b) i111 (2 ^ rf_kn (h 323) b) i121 (rf_dn (rf_dF (h 323) (h 332) a b) (2 ^ rf_kn (h 323) a) (2 ^ rf_kn (h 323) b) i111 (h 331)))) 0 i121 i130))) (h2 := (am_row (am_row h 332 (rf_dF (h 323) (h 332) a b)) 331 (rf_db (rf_dF (h 323) (h 332) a b) i111 i121 i130 (rf_da (rf_dF (h 323) (h 332) a b) i111 (2 ^ rf_kn (h 323) b) i121 (rf_dn (rf_dF (h 323) (h 332) a b) (2 ^ rf_kn (h 323) a) (2 ^ rf_kn (h 323) b) i111 (h 331)))))) C dX12_duels_174 k12_411 v_X12_isWon rfl rfl bn_322 sh_322 ⟨by decide, rfl⟩ (by decide) (Nat.zero_le _) (Nat.zero_le _) (Nat.le_of_ble_eq_true rfl) (c_X12_isWon hR 0 i121 i130 (show 0 < 2 from (by decide)) (show i121 < 128 from (by omega)) (show i130 < 128 from (by omega))) ?_
                                  refine am_zastoreB (pc := 177) C dX12_duels_177 bn_331 sh_331 (vp_in_nI (by omega) (by decide)) ?_
                                  refine am_hp (show am_up (am_row (am_row h 332 (rf_dF (h 323) (h 332) a b)) 331 (rf_db (rf_dF (h 323) (h 332) a b) i111 i121 i130 (rf_da (rf_dF (h 323) (h 332) a b) i111 (2 ^ rf_kn (h 323) b) i121 (rf_dn (rf_dF (h 323) (h 332) a b) (2 ^ rf_kn (h 323) a) (2 ^ rf_kn (h 323) b) i111 (h 331))))) 331 (nI ((0 * 128 + i121) * 128 + i130)).toNatClampNeg (am_b (rf_iw (rf_dF (h 323) (h 332) a b) (rf_db (rf_dF (h 323) (h 332) a b) i111 i121 i130 (rf_da (rf_dF (h 323) (h 332) a b) i111 (2 ^ rf_kn (h 323) b) i121 (rf_dn (rf_dF (h 323) (h 332) a b) (2 ^ rf_kn (h 323) a) (2 ^ rf_kn (h 323) b) i111 (h 331)))) 0 i121 i130)) = am_row (am_row (am_row h 332 (rf_dF (h 323) (h 332) a b)) 331 (rf_db (rf_dF (h 323) (h 332) a b) i111 i121 i130 (rf_da (rf_dF (h 323) (h 332) a b) i111 (2 ^ rf_kn (h 323) b) i121 (rf_dn (rf_dF (h 323) (h 332) a b) (2 ^ rf_kn (h 323) a) (2 ^ rf_kn (h 323) b) i111 (h 331))))) 331 (upd (rf_db (rf_dF (h 323) (h 332) a b) i111 i121 i130 (rf_da (rf_dF (h 323) (h 332) a b) i111 (2 ^ rf_kn (h 323) b) i121 (rf_dn (rf_dF (h 323) (h 332) a b) (2 ^ rf_kn (h 323) a) (2 ^ rf_kn (h 323) b) i111 (h 331)))) ((0 * 128 + i121) * 128 + i130) (am_b (rf_iw (rf_dF (h 323) (h 332) a b) (rf_db (rf_dF (h 323) (h 332) a b) i111 i121 i130 (rf_da (rf_dF (h 323) (h 332) a b) i111 (2 ^ rf_kn (h 323) b) i121 (rf_dn (rf_dF (h 323) (h 332) a b) (2 ^ rf_kn (h 323) a) (2 ^ rf_kn (h 323) b) i111 (h 331)))) 0 i121 i130))) from by rw [nI_clamp (by omega)]; exact am_up_rw _ _ _ _) ?_
                                  refine am_hp (show am_row (am_row (am_row h 332 (rf_dF (h 323) (h 332) a b)) 331 (rf_db (rf_dF (h 323) (h 332) a b) i111 i121 i130 (rf_da (rf_dF (h 323) (h 332) a b) i111 (2 ^ rf_kn (h 323) b) i121 (rf_dn (rf_dF (h 323) (h 332) a b) (2 ^ rf_kn (h 323) a) (2 ^ rf_kn (h 323) b) i111 (h 331))))) 331 (upd (rf_db (rf_dF (h 323) (h 332) a b) i111 i121 i130 (rf_da (rf_dF (h 323) (h 332) a b) i111 (2 ^ rf_kn (h 323) b) i121 (rf_dn (rf_dF (h 323) (h 332) a b) (2 ^ rf_kn (h 323) a) (2 ^ rf_kn (h 323) b) i111 (h 331)))) ((0 * 128 + i121) * 128 + i130) (am_b (rf_iw (rf_dF (h 323) (h 332) a b) (rf_db (rf_dF (h 323) (h 332) a b) i111 i121 i130 (rf_da (rf_dF (h 323) (h 332) a b) i111 (2 ^ rf_kn (h 323) b) i121 (rf_dn (rf_dF (h 323) (h 332) a b) (2 ^ rf_kn (h 323) a) (2 ^ rf_kn (h 323) b) i111 (h 331)))) 0 i121 i130))) = (am_row (am_row h 332 (rf_dF (h 323) (h 332) a b)) 331 (upd (rf_db (rf_dF (h 323) (h 332) a b) i111 i121 i130 (rf_da (rf_dF (h 323) (h 332) a b) i111 (2 ^ rf_kn (h 323) b) i121 (rf_dn (rf_dF (h 323) (h 332) a b) (2 ^ rf_kn (h 323) a) (2 ^ rf_kn (h 323) b) i111 (h 331)))) ((0 * 128 + i121) * 128 + i130) (am_b (rf_iw (rf_dF (h 323) (h 332) a b) (rf_db (rf_dF (h 323) (h 332) a b) i111 i121 i130 (rf_da (rf_dF (h 323) (h 332) a b) i111 (2 ^ rf_kn (h 323) b) i121 (rf_dn (rf_dF (h 323) (h 332) a b) (2 ^ rf_kn (h 323) a) (2 ^ rf_kn (h 323) b) i111 (h 331)))) 0 i121 i130)))) from am_row_s0) ?_
                                  refine am_aload_n (pc := 178) C dX12_duels_178 rfl ?_
                                  refine am_getR (pc := 179) (j := 331) C dX12_duels_179 f12_43 bn_322 sh_322 (rf_322_18 hR) ?_
                                  refine am_iconstN (pc := 182) (k := 1) C dX12_duels_182 ?_
                                  refine am_iload (pc := 183) C dX12_duels_183 rfl ?_
                                  refine am_iload (pc := 185) C dX12_duels_185 rfl ?_
                                  refine am_callSi (Y := mX12_duelAt) (pc := 187) (st := [.ref 331]) (As := [.int (nI 1), .int (nI i130), .int (nI i121)]) (x := (nI ((1 * 128 + i130) * 128 + i121))) (h2 := (am_row (am_row h 332 (rf_dF (h 323) (h 332) a b)) 331 (upd (rf_db (rf_dF (h 323) (h 332) a b) i111 i121 i130 (rf_da (rf_dF (h 323) (h 332) a b) i111 (2 ^ rf_kn (h 323) b) i121 (rf_dn (rf_dF (h 323) (h 332) a b) (2 ^ rf_kn (h 323) a) (2 ^ rf_kn (h 323) b) i111 (h 331)))) ((0 * 128 + i121) * 128 + i130) (am_b (rf_iw (rf_dF (h 323) (h 332) a b) (rf_db (rf_dF (h 323) (h 332) a b) i111 i121 i130 (rf_da (rf_dF (h 323) (h 332) a b) i111 (2 ^ rf_kn (h 323) b) i121 (rf_dn (rf_dF (h 323) (h 332) a b) (2 ^ rf_kn (h 323) a) (2 ^ rf_kn (h 323) b) i111 (h 331)))) 0 i121 i130))))) C dX12_duels_187 k12_405 v_X12_duelAt rfl rfl (by decide) (Nat.zero_le _) (Nat.zero_le _) (Nat.le_of_ble_eq_true rfl) (c_X12_duelAt hR 1 i130 i121) ?_
                                  refine am_aload_n (pc := 190) C dX12_duels_190 rfl ?_
                                  refine am_iconstN (pc := 191) (k := 1) C dX12_duels_191 ?_
                                  refine am_iload (pc := 192) C dX12_duels_192 rfl ?_
                                  refine am_iload (pc := 194) C dX12_duels_194 rfl ?_
                                  refine am_callVi (Y := mX12_isWon) (pc := 196) (st := [.int (nI ((1 * 128 + i130) * 128 + i121)), .ref 331]) (As := [.int (nI 1), .int (nI i130), .int (nI i121)]) (x := (am_b (rf_iw (rf_dF (h 323) (h 332) a b) (upd (rf_db (rf_dF (h 323) (h 332) a b) i111 i121 i130 (rf_da (rf_dF (h 323) (h 332) a b) i111 (2 ^ rf_kn (h 323) b) i121 (rf_dn (rf_dF (h 323) (h 332) a b) (2 ^ rf_kn (h 323) a) (2 ^ rf_kn (h 323) b) i111 (h 331)))) ((0 * 128 + i121) * 128 + i130) (am_b (rf_iw (rf_dF (h 323) (h 332) a b) (rf_db (rf_dF (h 323) (h 332) a b) i111 i121 i130 (rf_da (rf_dF (h 323) (h 332) a b) i111 (2 ^ rf_kn (h 323) b) i121 (rf_dn (rf_dF (h 323) (h 332) a b) (2 ^ rf_kn (h 323) a) (2 ^ rf_kn (h 323) b) i111 (h 331)))) 0 i121 i130))) 1 i130 i121))) (h2 := (am_row (am_row h 332 (rf_dF (h 323) (h 332) a b)) 331 (upd (rf_db (rf_dF (h 323) (h 332) a b) i111 i121 i130 (rf_da (rf_dF (h 323) (h 332) a b) i111 (2 ^ rf_kn (h 323) b) i121 (rf_dn (rf_dF (h 323) (h 332) a b) (2 ^ rf_kn (h 323) a) (2 ^ rf_kn (h 323) b) i111 (h 331)))) ((0 * 128 + i121) * 128 + i130) (am_b (rf_iw (rf_dF (h 323) (h 332) a b) (rf_db (rf_dF (h 323) (h 332) a b) i111 i121 i130 (rf_da (rf_dF (h 323) (h 332) a b) i111 (2 ^ rf_kn (h 323) b) i121 (rf_dn (rf_dF (h 323) (h 332) a b) (2 ^ rf_kn (h 323) a) (2 ^ rf_kn (h 323) b) i111 (h 331)))) 0 i121 i130))))) C dX12_duels_196 k12_411 v_X12_isWon rfl rfl bn_322 sh_322 ⟨by decide, rfl⟩ (by decide) (Nat.zero_le _) (Nat.zero_le _) (Nat.le_of_ble_eq_true rfl) (c_X12_isWon hR 1 i130 i121 (show 1 < 2 from (by decide)) (show i130 < 128 from (by omega)) (show i121 < 128 from (by omega))) ?_
                                  refine am_zastoreB (pc := 199) C dX12_duels_199 bn_331 sh_331 (vp_in_nI (by omega) (by decide)) ?_
                                  refine am_hp (show am_up (am_row (am_row h 332 (rf_dF (h 323) (h 332) a b)) 331 (upd (rf_db (rf_dF (h 323) (h 332) a b) i111 i121 i130 (rf_da (rf_dF (h 323) (h 332) a b) i111 (2 ^ rf_kn (h 323) b) i121 (rf_dn (rf_dF (h 323) (h 332) a b) (2 ^ rf_kn (h 323) a) (2 ^ rf_kn (h 323) b) i111 (h 331)))) ((0 * 128 + i121) * 128 + i130) (am_b (rf_iw (rf_dF (h 323) (h 332) a b) (rf_db (rf_dF (h 323) (h 332) a b) i111 i121 i130 (rf_da (rf_dF (h 323) (h 332) a b) i111 (2 ^ rf_kn (h 323) b) i121 (rf_dn (rf_dF (h 323) (h 332) a b) (2 ^ rf_kn (h 323) a) (2 ^ rf_kn (h 323) b) i111 (h 331)))) 0 i121 i130)))) 331 (nI ((1 * 128 + i130) * 128 + i121)).toNatClampNeg (am_b (rf_iw (rf_dF (h 323) (h 332) a b) (upd (rf_db (rf_dF (h 323) (h 332) a b) i111 i121 i130 (rf_da (rf_dF (h 323) (h 332) a b) i111 (2 ^ rf_kn (h 323) b) i121 (rf_dn (rf_dF (h 323) (h 332) a b) (2 ^ rf_kn (h 323) a) (2 ^ rf_kn (h 323) b) i111 (h 331)))) ((0 * 128 + i121) * 128 + i130) (am_b (rf_iw (rf_dF (h 323) (h 332) a b) (rf_db (rf_dF (h 323) (h 332) a b) i111 i121 i130 (rf_da (rf_dF (h 323) (h 332) a b) i111 (2 ^ rf_kn (h 323) b) i121 (rf_dn (rf_dF (h 323) (h 332) a b) (2 ^ rf_kn (h 323) a) (2 ^ rf_kn (h 323) b) i111 (h 331)))) 0 i121 i130))) 1 i130 i121)) = am_row (am_row (am_row h 332 (rf_dF (h 323) (h 332) a b)) 331 (upd (rf_db (rf_dF (h 323) (h 332) a b) i111 i121 i130 (rf_da (rf_dF (h 323) (h 332) a b) i111 (2 ^ rf_kn (h 323) b) i121 (rf_dn (rf_dF (h 323) (h 332) a b) (2 ^ rf_kn (h 323) a) (2 ^ rf_kn (h 323) b) i111 (h 331)))) ((0 * 128 + i121) * 128 + i130) (am_b (rf_iw (rf_dF (h 323) (h 332) a b) (rf_db (rf_dF (h 323) (h 332) a b) i111 i121 i130 (rf_da (rf_dF (h 323) (h 332) a b) i111 (2 ^ rf_kn (h 323) b) i121 (rf_dn (rf_dF (h 323) (h 332) a b) (2 ^ rf_kn (h 323) a) (2 ^ rf_kn (h 323) b) i111 (h 331)))) 0 i121 i130)))) 331 (upd (upd (rf_db (rf_dF (h 323) (h 332) a b) i111 i121 i130 (rf_da (rf_dF (h 323) (h 332) a b) i111 (2 ^ rf_kn (h 323) b) i121 (rf_dn (rf_dF (h 323) (h 332) a b) (2 ^ rf_kn (h 323) a) (2 ^ rf_kn (h 323) b) i111 (h 331)))) ((0 * 128 + i121) * 128 + i130) (am_b (rf_iw (rf_dF (h 323) (h 332) a b) (rf_db (rf_dF (h 323) (h 332) a b) i111 i121 i130 (rf_da (rf_dF (h 323) (h 332) a b) i111 (2 ^ rf_kn (h 323) b) i121 (rf_dn (rf_dF (h 323) (h 332) a b) (2 ^ rf_kn (h 323) a) (2 ^ rf_kn (h 323) b) i111 (h 331)))) 0 i121 i130))) ((1 * 128 + i130) * 128 + i121) (am_b (rf_iw (rf_dF (h 323) (h 332) a b) (upd (rf_db (rf_dF (h 323) (h 332) a b) i111 i121 i130 (rf_da (rf_dF (h 323) (h 332) a b) i111 (2 ^ rf_kn (h 323) b) i121 (rf_dn (rf_dF (h 323) (h 332) a b) (2 ^ rf_kn (h 323) a) (2 ^ rf_kn (h 323) b) i111 (h 331)))) ((0 * 128 + i121) * 128 + i130) (am_b (rf_iw (rf_dF (h 323) (h 332) a b) (rf_db (rf_dF (h 323) (h 332) a b) i111 i121 i130 (rf_da (rf_dF (h 323) (h 332) a b) i111 (2 ^ rf_kn (h 323) b) i121 (rf_dn (rf_dF (h 323) (h 332) a b) (2 ^ rf_kn (h 323) a) (2 ^ rf_kn (h 323) b) i111 (h 331)))) 0 i121 i130))) 1 i130 i121))) from by rw [nI_clamp (by omega)]; exact am_up_rw _ _ _ _) ?_
                                  refine am_hp (show am_row (am_row (am_row h 332 (rf_dF (h 323) (h 332) a b)) 331 (upd (rf_db (rf_dF (h 323) (h 332) a b) i111 i121 i130 (rf_da (rf_dF (h 323) (h 332) a b) i111 (2 ^ rf_kn (h 323) b) i121 (rf_dn (rf_dF (h 323) (h 332) a b) (2 ^ rf_kn (h 323) a) (2 ^ rf_kn (h 323) b) i111 (h 331)))) ((0 * 128 + i121) * 128 + i130) (am_b (rf_iw (rf_dF (h 323) (h 332) a b) (rf_db (rf_dF (h 323) (h 332) a b) i111 i121 i130 (rf_da (rf_dF (h 323) (h 332) a b) i111 (2 ^ rf_kn (h 323) b) i121 (rf_dn (rf_dF (h 323) (h 332) a b) (2 ^ rf_kn (h 323) a) (2 ^ rf_kn (h 323) b) i111 (h 331)))) 0 i121 i130)))) 331 (upd (upd (rf_db (rf_dF (h 323) (h 332) a b) i111 i121 i130 (rf_da (rf_dF (h 323) (h 332) a b) i111 (2 ^ rf_kn (h 323) b) i121 (rf_dn (rf_dF (h 323) (h 332) a b) (2 ^ rf_kn (h 323) a) (2 ^ rf_kn (h 323) b) i111 (h 331)))) ((0 * 128 + i121) * 128 + i130) (am_b (rf_iw (rf_dF (h 323) (h 332) a b) (rf_db (rf_dF (h 323) (h 332) a b) i111 i121 i130 (rf_da (rf_dF (h 323) (h 332) a b) i111 (2 ^ rf_kn (h 323) b) i121 (rf_dn (rf_dF (h 323) (h 332) a b) (2 ^ rf_kn (h 323) a) (2 ^ rf_kn (h 323) b) i111 (h 331)))) 0 i121 i130))) ((1 * 128 + i130) * 128 + i121) (am_b (rf_iw (rf_dF (h 323) (h 332) a b) (upd (rf_db (rf_dF (h 323) (h 332) a b) i111 i121 i130 (rf_da (rf_dF (h 323) (h 332) a b) i111 (2 ^ rf_kn (h 323) b) i121 (rf_dn (rf_dF (h 323) (h 332) a b) (2 ^ rf_kn (h 323) a) (2 ^ rf_kn (h 323) b) i111 (h 331)))) ((0 * 128 + i121) * 128 + i130) (am_b (rf_iw (rf_dF (h 323) (h 332) a b) (rf_db (rf_dF (h 323) (h 332) a b) i111 i121 i130 (rf_da (rf_dF (h 323) (h 332) a b) i111 (2 ^ rf_kn (h 323) b) i121 (rf_dn (rf_dF (h 323) (h 332) a b) (2 ^ rf_kn (h 323) a) (2 ^ rf_kn (h 323) b) i111 (h 331)))) 0 i121 i130))) 1 i130 i121))) = (am_row (am_row h 332 (rf_dF (h 323) (h 332) a b)) 331 (upd (upd (rf_db (rf_dF (h 323) (h 332) a b) i111 i121 i130 (rf_da (rf_dF (h 323) (h 332) a b) i111 (2 ^ rf_kn (h 323) b) i121 (rf_dn (rf_dF (h 323) (h 332) a b) (2 ^ rf_kn (h 323) a) (2 ^ rf_kn (h 323) b) i111 (h 331)))) ((0 * 128 + i121) * 128 + i130) (am_b (rf_iw (rf_dF (h 323) (h 332) a b) (rf_db (rf_dF (h 323) (h 332) a b) i111 i121 i130 (rf_da (rf_dF (h 323) (h 332) a b) i111 (2 ^ rf_kn (h 323) b) i121 (rf_dn (rf_dF (h 323) (h 332) a b) (2 ^ rf_kn (h 323) a) (2 ^ rf_kn (h 323) b) i111 (h 331)))) 0 i121 i130))) ((1 * 128 + i130) * 128 + i121) (am_b (rf_iw (rf_dF (h 323) (h 332) a b) (upd (rf_db (rf_dF (h 323) (h 332) a b) i111 i121 i130 (rf_da (rf_dF (h 323) (h 332) a b) i111 (2 ^ rf_kn (h 323) b) i121 (rf_dn (rf_dF (h 323) (h 332) a b) (2 ^ rf_kn (h 323) a) (2 ^ rf_kn (h 323) b) i111 (h 331)))) ((0 * 128 + i121) * 128 + i130) (am_b (rf_iw (rf_dF (h 323) (h 332) a b) (rf_db (rf_dF (h 323) (h 332) a b) i111 i121 i130 (rf_da (rf_dF (h 323) (h 332) a b) i111 (2 ^ rf_kn (h 323) b) i121 (rf_dn (rf_dF (h 323) (h 332) a b) (2 ^ rf_kn (h 323) a) (2 ^ rf_kn (h 323) b) i111 (h 331)))) 0 i121 i130))) 1 i130 i121)))) from am_row_s0) ?_
                                  refine am_iincN (pc := 200) (ls' := [(0, .ref 322), (1, .int (nI a)), (2, .int (nI b)), (3, .int (nI (2 ^ rf_kn (h 323) a))), (4, .int (nI (2 ^ rf_kn (h 323) b))), (5, .int (nI i111)), (6, .int (nI i121)), (7, .int (nI (i130 + 1)))]) C dX12_duels_200 rfl (am_up1 _) (by decide) rfl ?_
                                  refine am_goto (pc := 203) (tgt := 130) C dX12_duels_203 (by decide) ?_
                                  refine am_hp (show (am_row (am_row h 332 (rf_dF (h 323) (h 332) a b)) 331 (upd (upd (rf_db (rf_dF (h 323) (h 332) a b) i111 i121 i130 (rf_da (rf_dF (h 323) (h 332) a b) i111 (2 ^ rf_kn (h 323) b) i121 (rf_dn (rf_dF (h 323) (h 332) a b) (2 ^ rf_kn (h 323) a) (2 ^ rf_kn (h 323) b) i111 (h 331)))) ((0 * 128 + i121) * 128 + i130) (am_b (rf_iw (rf_dF (h 323) (h 332) a b) (rf_db (rf_dF (h 323) (h 332) a b) i111 i121 i130 (rf_da (rf_dF (h 323) (h 332) a b) i111 (2 ^ rf_kn (h 323) b) i121 (rf_dn (rf_dF (h 323) (h 332) a b) (2 ^ rf_kn (h 323) a) (2 ^ rf_kn (h 323) b) i111 (h 331)))) 0 i121 i130))) ((1 * 128 + i130) * 128 + i121) (am_b (rf_iw (rf_dF (h 323) (h 332) a b) (upd (rf_db (rf_dF (h 323) (h 332) a b) i111 i121 i130 (rf_da (rf_dF (h 323) (h 332) a b) i111 (2 ^ rf_kn (h 323) b) i121 (rf_dn (rf_dF (h 323) (h 332) a b) (2 ^ rf_kn (h 323) a) (2 ^ rf_kn (h 323) b) i111 (h 331)))) ((0 * 128 + i121) * 128 + i130) (am_b (rf_iw (rf_dF (h 323) (h 332) a b) (rf_db (rf_dF (h 323) (h 332) a b) i111 i121 i130 (rf_da (rf_dF (h 323) (h 332) a b) i111 (2 ^ rf_kn (h 323) b) i121 (rf_dn (rf_dF (h 323) (h 332) a b) (2 ^ rf_kn (h 323) a) (2 ^ rf_kn (h 323) b) i111 (h 331)))) 0 i121 i130))) 1 i130 i121)))) = (am_row (am_row h 332 (rf_dF (h 323) (h 332) a b)) 331 (rf_db (rf_dF (h 323) (h 332) a b) i111 i121 (i130 + 1) (rf_da (rf_dF (h 323) (h 332) a b) i111 (2 ^ rf_kn (h 323) b) i121 (rf_dn (rf_dF (h 323) (h 332) a b) (2 ^ rf_kn (h 323) a) (2 ^ rf_kn (h 323) b) i111 (h 331))))) from congrArg (am_row _ 331) (by rw [rf_db, if_pos q150]; rfl)) ?_
                                  exact ih130 (i130 + 1) (by omega) 
                                · skip
                                  refine am_goto (pc := 153) (tgt := 200) C dX12_duels_153 (by decide) ?_
                                  refine am_iincN (pc := 200) (ls' := [(0, .ref 322), (1, .int (nI a)), (2, .int (nI b)), (3, .int (nI (2 ^ rf_kn (h 323) a))), (4, .int (nI (2 ^ rf_kn (h 323) b))), (5, .int (nI i111)), (6, .int (nI i121)), (7, .int (nI (i130 + 1)))]) C dX12_duels_200 rfl (am_up1 _) (by decide) rfl ?_
                                  refine am_goto (pc := 203) (tgt := 130) C dX12_duels_203 (by decide) ?_
                                  refine am_hp (show (am_row (am_row h 332 (rf_dF (h 323) (h 332) a b)) 331 (rf_db (rf_dF (h 323) (h 332) a b) i111 i121 i130 (rf_da (rf_dF (h 323) (h 332) a b) i111 (2 ^ rf_kn (h 323) b) i121 (rf_dn (rf_dF (h 323) (h 332) a b) (2 ^ rf_kn (h 323) a) (2 ^ rf_kn (h 323) b) i111 (h 331))))) = (am_row (am_row h 332 (rf_dF (h 323) (h 332) a b)) 331 (rf_db (rf_dF (h 323) (h 332) a b) i111 i121 (i130 + 1) (rf_da (rf_dF (h 323) (h 332) a b) i111 (2 ^ rf_kn (h 323) b) i121 (rf_dn (rf_dF (h 323) (h 332) a b) (2 ^ rf_kn (h 323) a) (2 ^ rf_kn (h 323) b) i111 (h 331))))) from congrArg (am_row _ 331) (by rw [rf_db, if_neg q150])) ?_
                                  exact ih130 (i130 + 1) (by omega) 
                          refine am_hp (show (am_row (am_row h 332 (rf_dF (h 323) (h 332) a b)) 331 (rf_da (rf_dF (h 323) (h 332) a b) i111 (2 ^ rf_kn (h 323) b) i121 (rf_dn (rf_dF (h 323) (h 332) a b) (2 ^ rf_kn (h 323) a) (2 ^ rf_kn (h 323) b) i111 (h 331)))) = (am_row (am_row h 332 (rf_dF (h 323) (h 332) a b)) 331 (rf_db (rf_dF (h 323) (h 332) a b) i111 i121 0 (rf_da (rf_dF (h 323) (h 332) a b) i111 (2 ^ rf_kn (h 323) b) i121 (rf_dn (rf_dF (h 323) (h 332) a b) (2 ^ rf_kn (h 323) a) (2 ^ rf_kn (h 323) b) i111 (h 331))))) from rfl) ?_
                          exact L130 (2 ^ rf_kn (h 323) b) 0 (by omega) 
                    refine am_sub (ls' := [(0, .ref 322), (1, .int (nI a)), (2, .int (nI b)), (3, .int (nI (2 ^ rf_kn (h 323) a))), (4, .int (nI (2 ^ rf_kn (h 323) b))), (5, .int (nI i111)), (6, .int (nI 0))]) (by intro q hq; simp only [List.mem_cons, List.not_mem_nil, or_false] at hq ⊢; rcases hq with rfl | rfl | rfl | rfl | rfl | rfl | rfl <;> simp) ?_
                    refine am_hp (show (am_row (am_row h 332 (rf_dF (h 323) (h 332) a b)) 331 (rf_dn (rf_dF (h 323) (h 332) a b) (2 ^ rf_kn (h 323) a) (2 ^ rf_kn (h 323) b) i111 (h 331))) = (am_row (am_row h 332 (rf_dF (h 323) (h 332) a b)) 331 (rf_da (rf_dF (h 323) (h 332) a b) i111 (2 ^ rf_kn (h 323) b) 0 (rf_dn (rf_dF (h 323) (h 332) a b) (2 ^ rf_kn (h 323) a) (2 ^ rf_kn (h 323) b) i111 (h 331)))) from rfl) ?_
                    exact L121 (2 ^ rf_kn (h 323) a) 0 (by omega) 
              refine am_sub (ls' := [(0, .ref 322), (1, .int (nI a)), (2, .int (nI b)), (3, .int (nI (2 ^ rf_kn (h 323) a))), (4, .int (nI (2 ^ rf_kn (h 323) b))), (5, .int (nI 0))]) (by intro q hq; simp only [List.mem_cons, List.not_mem_nil, or_false] at hq ⊢; rcases hq with rfl | rfl | rfl | rfl | rfl | rfl <;> simp) ?_
              refine am_hp (show (am_row h 332 (rf_dF (h 323) (h 332) a b)) = (am_row (am_row h 332 (rf_dF (h 323) (h 332) a b)) 331 (rf_dn (rf_dF (h 323) (h 332) a b) (2 ^ rf_kn (h 323) a) (2 ^ rf_kn (h 323) b) 0 (h 331))) from (am_row_id _ 331).symm) ?_
              exact L111 15 0 (by omega) 
            · skip
              exact absurd q69 (by omega)
          | succ j65 ih65 =>
            intro i65 hi65 
            have hl65 : i65 < (2 ^ rf_kn (h 323) b) := by omega
            refine am_iload (pc := 65) C dX12_duels_65 rfl ?_
            refine am_iload (pc := 67) C dX12_duels_67 rfl ?_
            refine am_icmp_geN (pc := 69) (tgt := 108) C dX12_duels_69 (by decide) (by omega) (by omega) (fun q69 => ?_) (fun q69 => ?_)
            · skip
              exact absurd q69 (by omega)
            · skip
              refine am_aload_n (pc := 72) C dX12_duels_72 rfl ?_
              refine am_getR (pc := 73) (j := 332) C dX12_duels_73 f12_47 bn_322 sh_322 (rf_322_19 hR) ?_
              refine am_sipush (pc := 76) (v := nI 128) C dX12_duels_76 (by decide) ?_
              refine am_iload (pc := 79) C dX12_duels_79 rfl ?_
              refine am_iaddN (pc := 81) C dX12_duels_81 ?_
              refine am_aload_n (pc := 82) C dX12_duels_82 rfl ?_
              refine am_aload_n (pc := 83) C dX12_duels_83 rfl ?_
              refine am_iload_n (pc := 84) C dX12_duels_84 rfl ?_
              refine am_iload (pc := 85) C dX12_duels_85 rfl ?_
              refine am_callVi (Y := mX12_setOf) (pc := 87) (st := [.ref 322, .int (nI (128 + i65)), .ref 332]) (As := [.int (nI b), .int (nI i65)]) (x := (rf_setOf (h 323) b (nI i65))) (h2 := (am_row h 332 (rf_fl (rf_fl (h 332) 0 (rf_fgt (h 323) a) (2 ^ rf_kn (h 323) a)) 128 (rf_fgt (h 323) b) i65))) C dX12_duels_87 k12_408 v_X12_setOf rfl rfl bn_322 sh_322 ⟨by decide, rfl⟩ (by decide) (Nat.zero_le _) (Nat.zero_le _) (Nat.le_of_ble_eq_true rfl) (c_X12_setOf hR b (nI i65) hV hb) ?_
              refine am_callVi (Y := mX12_usable) (pc := 90) (st := [.int (nI (128 + i65)), .ref 332]) (As := [.int (rf_setOf (h 323) b (nI i65))]) (x := (rf_usable (h 323) (rf_setOf (h 323) b (nI i65)))) (h2 := (am_row h 332 (rf_fl (rf_fl (h 332) 0 (rf_fgt (h 323) a) (2 ^ rf_kn (h 323) a)) 128 (rf_fgt (h 323) b) i65))) C dX12_duels_90 k12_92 v_X12_usable rfl rfl bn_322 sh_322 ⟨by decide, rfl⟩ (by decide) (Nat.zero_le _) (Nat.zero_le _) (Nat.le_of_ble_eq_true rfl) (c_X12_usable hR (rf_setOf (h 323) b (nI i65)) (show rf_Cn (h 323) from hV.1)) ?_
              refine am_if_eq (pc := 93) (tgt := 100) C dX12_duels_93 (by decide) (fun q93 => ?_) (fun q93 => ?_)
              · skip
                refine am_iconstN (pc := 100) (k := 0) C dX12_duels_100 ?_
                refine am_top (show (nI 0) = (am_b (rf_fgt (h 323) b i65)) from (by rw [rf_fgt, decide_eq_false (fun z => z q93)]; rfl)) ?_
                refine am_zastoreB (pc := 101) C dX12_duels_101 bn_332 sh_332 (vp_in_nI (by omega) (by decide)) ?_
                refine am_hp (show am_up (am_row h 332 (rf_fl (rf_fl (h 332) 0 (rf_fgt (h 323) a) (2 ^ rf_kn (h 323) a)) 128 (rf_fgt (h 323) b) i65)) 332 (nI (128 + i65)).toNatClampNeg (am_b (rf_fgt (h 323) b i65)) = am_row (am_row h 332 (rf_fl (rf_fl (h 332) 0 (rf_fgt (h 323) a) (2 ^ rf_kn (h 323) a)) 128 (rf_fgt (h 323) b) i65)) 332 (upd (rf_fl (rf_fl (h 332) 0 (rf_fgt (h 323) a) (2 ^ rf_kn (h 323) a)) 128 (rf_fgt (h 323) b) i65) (128 + i65) (am_b (rf_fgt (h 323) b i65))) from by rw [nI_clamp (by omega)]; exact am_up_rw _ _ _ _) ?_
                refine am_hp (show am_row (am_row h 332 (rf_fl (rf_fl (h 332) 0 (rf_fgt (h 323) a) (2 ^ rf_kn (h 323) a)) 128 (rf_fgt (h 323) b) i65)) 332 (upd (rf_fl (rf_fl (h 332) 0 (rf_fgt (h 323) a) (2 ^ rf_kn (h 323) a)) 128 (rf_fgt (h 323) b) i65) (128 + i65) (am_b (rf_fgt (h 323) b i65))) = (am_row h 332 (upd (rf_fl (rf_fl (h 332) 0 (rf_fgt (h 323) a) (2 ^ rf_kn (h 323) a)) 128 (rf_fgt (h 323) b) i65) (128 + i65) (am_b (rf_fgt (h 323) b i65)))) from am_row_s0) ?_
                refine am_iincN (pc := 102) (ls' := [(0, .ref 322), (1, .int (nI a)), (2, .int (nI b)), (3, .int (nI (2 ^ rf_kn (h 323) a))), (4, .int (nI (2 ^ rf_kn (h 323) b))), (5, .int (nI (i65 + 1)))]) C dX12_duels_102 rfl (am_up1 _) (by decide) rfl ?_
                refine am_goto (pc := 105) (tgt := 65) C dX12_duels_105 (by decide) ?_
                refine am_hp (show (am_row h 332 (upd (rf_fl (rf_fl (h 332) 0 (rf_fgt (h 323) a) (2 ^ rf_kn (h 323) a)) 128 (rf_fgt (h 323) b) i65) (128 + i65) (am_b (rf_fgt (h 323) b i65)))) = (am_row h 332 (rf_fl (rf_fl (h 332) 0 (rf_fgt (h 323) a) (2 ^ rf_kn (h 323) a)) 128 (rf_fgt (h 323) b) (i65 + 1))) from rfl) ?_
                exact ih65 (i65 + 1) (by omega) 
              · skip
                refine am_iconstN (pc := 96) (k := 1) C dX12_duels_96 ?_
                refine am_goto (pc := 97) (tgt := 101) C dX12_duels_97 (by decide) ?_
                refine am_top (show (nI 1) = (am_b (rf_fgt (h 323) b i65)) from (by rw [rf_fgt, decide_eq_true q93]; rfl)) ?_
                refine am_zastoreB (pc := 101) C dX12_duels_101 bn_332 sh_332 (vp_in_nI (by omega) (by decide)) ?_
                refine am_hp (show am_up (am_row h 332 (rf_fl (rf_fl (h 332) 0 (rf_fgt (h 323) a) (2 ^ rf_kn (h 323) a)) 128 (rf_fgt (h 323) b) i65)) 332 (nI (128 + i65)).toNatClampNeg (am_b (rf_fgt (h 323) b i65)) = am_row (am_row h 332 (rf_fl (rf_fl (h 332) 0 (rf_fgt (h 323) a) (2 ^ rf_kn (h 323) a)) 128 (rf_fgt (h 323) b) i65)) 332 (upd (rf_fl (rf_fl (h 332) 0 (rf_fgt (h 323) a) (2 ^ rf_kn (h 323) a)) 128 (rf_fgt (h 323) b) i65) (128 + i65) (am_b (rf_fgt (h 323) b i65))) from by rw [nI_clamp (by omega)]; exact am_up_rw _ _ _ _) ?_
                refine am_hp (show am_row (am_row h 332 (rf_fl (rf_fl (h 332) 0 (rf_fgt (h 323) a) (2 ^ rf_kn (h 323) a)) 128 (rf_fgt (h 323) b) i65)) 332 (upd (rf_fl (rf_fl (h 332) 0 (rf_fgt (h 323) a) (2 ^ rf_kn (h 323) a)) 128 (rf_fgt (h 323) b) i65) (128 + i65) (am_b (rf_fgt (h 323) b i65))) = (am_row h 332 (upd (rf_fl (rf_fl (h 332) 0 (rf_fgt (h 323) a) (2 ^ rf_kn (h 323) a)) 128 (rf_fgt (h 323) b) i65) (128 + i65) (am_b (rf_fgt (h 323) b i65)))) from am_row_s0) ?_
                refine am_iincN (pc := 102) (ls' := [(0, .ref 322), (1, .int (nI a)), (2, .int (nI b)), (3, .int (nI (2 ^ rf_kn (h 323) a))), (4, .int (nI (2 ^ rf_kn (h 323) b))), (5, .int (nI (i65 + 1)))]) C dX12_duels_102 rfl (am_up1 _) (by decide) rfl ?_
                refine am_goto (pc := 105) (tgt := 65) C dX12_duels_105 (by decide) ?_
                refine am_hp (show (am_row h 332 (upd (rf_fl (rf_fl (h 332) 0 (rf_fgt (h 323) a) (2 ^ rf_kn (h 323) a)) 128 (rf_fgt (h 323) b) i65) (128 + i65) (am_b (rf_fgt (h 323) b i65)))) = (am_row h 332 (rf_fl (rf_fl (h 332) 0 (rf_fgt (h 323) a) (2 ^ rf_kn (h 323) a)) 128 (rf_fgt (h 323) b) (i65 + 1))) from rfl) ?_
                exact ih65 (i65 + 1) (by omega) 
        refine am_hp (show (am_row h 332 (rf_fl (h 332) 0 (rf_fgt (h 323) a) (2 ^ rf_kn (h 323) a))) = (am_row h 332 (rf_fl (rf_fl (h 332) 0 (rf_fgt (h 323) a) (2 ^ rf_kn (h 323) a)) 128 (rf_fgt (h 323) b) 0)) from rfl) ?_
        exact L65 (2 ^ rf_kn (h 323) b) 0 (by omega) 
      · skip
        exact absurd q27 (by omega)
    | succ j24 ih24 =>
      intro i24 hi24 
      have hl24 : i24 < (2 ^ rf_kn (h 323) a) := by omega
      refine am_iload (pc := 24) C dX12_duels_24 rfl ?_
      refine am_iload_n (pc := 26) C dX12_duels_26 rfl ?_
      refine am_icmp_geN (pc := 27) (tgt := 62) C dX12_duels_27 (by decide) (by omega) (by omega) (fun q27 => ?_) (fun q27 => ?_)
      · skip
        exact absurd q27 (by omega)
      · skip
        refine am_aload_n (pc := 30) C dX12_duels_30 rfl ?_
        refine am_getR (pc := 31) (j := 332) C dX12_duels_31 f12_47 bn_322 sh_322 (rf_322_19 hR) ?_
        refine am_iload (pc := 34) C dX12_duels_34 rfl ?_
        refine am_aload_n (pc := 36) C dX12_duels_36 rfl ?_
        refine am_aload_n (pc := 37) C dX12_duels_37 rfl ?_
        refine am_iload_n (pc := 38) C dX12_duels_38 rfl ?_
        refine am_iload (pc := 39) C dX12_duels_39 rfl ?_
        refine am_callVi (Y := mX12_setOf) (pc := 41) (st := [.ref 322, .int (nI i24), .ref 332]) (As := [.int (nI a), .int (nI i24)]) (x := (rf_setOf (h 323) a (nI i24))) (h2 := (am_row h 332 (rf_fl (h 332) 0 (rf_fgt (h 323) a) i24))) C dX12_duels_41 k12_408 v_X12_setOf rfl rfl bn_322 sh_322 ⟨by decide, rfl⟩ (by decide) (Nat.zero_le _) (Nat.zero_le _) (Nat.le_of_ble_eq_true rfl) (c_X12_setOf hR a (nI i24) (show rf_I (h 323) from hV) (show a < rf_S (h 323) from ha)) ?_
        refine am_callVi (Y := mX12_usable) (pc := 44) (st := [.int (nI i24), .ref 332]) (As := [.int (rf_setOf (h 323) a (nI i24))]) (x := (rf_usable (h 323) (rf_setOf (h 323) a (nI i24)))) (h2 := (am_row h 332 (rf_fl (h 332) 0 (rf_fgt (h 323) a) i24))) C dX12_duels_44 k12_92 v_X12_usable rfl rfl bn_322 sh_322 ⟨by decide, rfl⟩ (by decide) (Nat.zero_le _) (Nat.zero_le _) (Nat.le_of_ble_eq_true rfl) (c_X12_usable hR (rf_setOf (h 323) a (nI i24)) (show rf_Cn (h 323) from hV.1)) ?_
        refine am_if_eq (pc := 47) (tgt := 54) C dX12_duels_47 (by decide) (fun q47 => ?_) (fun q47 => ?_)
        · skip
          refine am_iconstN (pc := 54) (k := 0) C dX12_duels_54 ?_
          refine am_top (show (nI 0) = (am_b (rf_fgt (h 323) a i24)) from (by rw [rf_fgt, decide_eq_false (fun z => z q47)]; rfl)) ?_
          refine am_zastoreB (pc := 55) C dX12_duels_55 bn_332 sh_332 (vp_in_nI (by omega) (by decide)) ?_
          refine am_hp (show am_up (am_row h 332 (rf_fl (h 332) 0 (rf_fgt (h 323) a) i24)) 332 (nI i24).toNatClampNeg (am_b (rf_fgt (h 323) a i24)) = am_row (am_row h 332 (rf_fl (h 332) 0 (rf_fgt (h 323) a) i24)) 332 (upd (rf_fl (h 332) 0 (rf_fgt (h 323) a) i24) i24 (am_b (rf_fgt (h 323) a i24))) from by rw [nI_clamp (by omega)]; exact am_up_rw _ _ _ _) ?_
          refine am_hp (show am_row (am_row h 332 (rf_fl (h 332) 0 (rf_fgt (h 323) a) i24)) 332 (upd (rf_fl (h 332) 0 (rf_fgt (h 323) a) i24) i24 (am_b (rf_fgt (h 323) a i24))) = (am_row h 332 (upd (rf_fl (h 332) 0 (rf_fgt (h 323) a) i24) i24 (am_b (rf_fgt (h 323) a i24)))) from am_row_s0) ?_
          refine am_iincN (pc := 56) (ls' := [(0, .ref 322), (1, .int (nI a)), (2, .int (nI b)), (3, .int (nI (2 ^ rf_kn (h 323) a))), (4, .int (nI (2 ^ rf_kn (h 323) b))), (5, .int (nI (i24 + 1)))]) C dX12_duels_56 rfl (am_up1 _) (by decide) rfl ?_
          refine am_goto (pc := 59) (tgt := 24) C dX12_duels_59 (by decide) ?_
          refine am_hp (show (am_row h 332 (upd (rf_fl (h 332) 0 (rf_fgt (h 323) a) i24) i24 (am_b (rf_fgt (h 323) a i24)))) = (am_row h 332 (rf_fl (h 332) 0 (rf_fgt (h 323) a) (i24 + 1))) from congrArg (am_row _ 332) (by rw [rf_fl, Nat.zero_add])) ?_
          exact ih24 (i24 + 1) (by omega) 
        · skip
          refine am_iconstN (pc := 50) (k := 1) C dX12_duels_50 ?_
          refine am_goto (pc := 51) (tgt := 55) C dX12_duels_51 (by decide) ?_
          refine am_top (show (nI 1) = (am_b (rf_fgt (h 323) a i24)) from (by rw [rf_fgt, decide_eq_true q47]; rfl)) ?_
          refine am_zastoreB (pc := 55) C dX12_duels_55 bn_332 sh_332 (vp_in_nI (by omega) (by decide)) ?_
          refine am_hp (show am_up (am_row h 332 (rf_fl (h 332) 0 (rf_fgt (h 323) a) i24)) 332 (nI i24).toNatClampNeg (am_b (rf_fgt (h 323) a i24)) = am_row (am_row h 332 (rf_fl (h 332) 0 (rf_fgt (h 323) a) i24)) 332 (upd (rf_fl (h 332) 0 (rf_fgt (h 323) a) i24) i24 (am_b (rf_fgt (h 323) a i24))) from by rw [nI_clamp (by omega)]; exact am_up_rw _ _ _ _) ?_
          refine am_hp (show am_row (am_row h 332 (rf_fl (h 332) 0 (rf_fgt (h 323) a) i24)) 332 (upd (rf_fl (h 332) 0 (rf_fgt (h 323) a) i24) i24 (am_b (rf_fgt (h 323) a i24))) = (am_row h 332 (upd (rf_fl (h 332) 0 (rf_fgt (h 323) a) i24) i24 (am_b (rf_fgt (h 323) a i24)))) from am_row_s0) ?_
          refine am_iincN (pc := 56) (ls' := [(0, .ref 322), (1, .int (nI a)), (2, .int (nI b)), (3, .int (nI (2 ^ rf_kn (h 323) a))), (4, .int (nI (2 ^ rf_kn (h 323) b))), (5, .int (nI (i24 + 1)))]) C dX12_duels_56 rfl (am_up1 _) (by decide) rfl ?_
          refine am_goto (pc := 59) (tgt := 24) C dX12_duels_59 (by decide) ?_
          refine am_hp (show (am_row h 332 (upd (rf_fl (h 332) 0 (rf_fgt (h 323) a) i24) i24 (am_b (rf_fgt (h 323) a i24)))) = (am_row h 332 (rf_fl (h 332) 0 (rf_fgt (h 323) a) (i24 + 1))) from congrArg (am_row _ 332) (by rw [rf_fl, Nat.zero_add])) ?_
          exact ih24 (i24 + 1) (by omega) 
  refine am_hp (show h = (am_row h 332 (rf_fl (h 332) 0 (rf_fgt (h 323) a) 0)) from (am_row_id _ 332).symm) ?_
  exact L24 (2 ^ rf_kn (h 323) a) 0 (by omega) 

set_option maxHeartbeats 400000 in
set_option maxRecDepth 100000 in
theorem c_X12_duel {ad : Nat → Nat} {r : am_R} (hR : am_rs r) {h : am_H} (a : Int32) (b : Int32) (hV : rf_I (h 323))  : am_CM mX12_duel 3 0 0 [.ref 322, .int a, .int b] (am_VV ad) r h (am_pj (some (.int (rf_ga (rf_c_duel (h 323) a b) (rf_a_duel (h 323) a b)))) r (fun G => (am_row (am_row (am_row h 331 (G 331)) 332 (G 332)) 322 (rf_oc (h 322) (rf_c_duel (h 323) a b))))) := by
  refine am_CM.of (by decide +kernel) (Nat.le_of_ble_eq_true rfl) (fun X C T => ?_)
  show am_G X (am_VV ad) (0, 0) 0 [(0, .ref 322), (1, .int a), (2, .int b)] [] r h
  have hM9 : rf_M (h 323) < 17 := hV.1.1.2
  have hS9 : rf_S (h 323) < 11 := hV.1.2.1.2
  have hO9 : rf_O (h 323) < 11 := hV.1.2.2.2
  refine am_hp (show h = (am_row h 331 (h 331)) from (am_row_id _ _).symm) ?_
  refine am_hp (show (am_row h 331 (h 331)) = (am_row (am_row h 331 (h 331)) 332 (h 332)) from (am_row_id _ _).symm) ?_
  refine am_aload_n (pc := 0) C dX12_duel_0 rfl ?_
  refine am_iconstN (pc := 1) (k := 0) C dX12_duel_1 ?_
  refine am_putI (pc := 2) C dX12_duel_2 f12_3 bn_322 sh_322 rfl rfl ?_
  refine am_hp (show am_up (am_row (am_row h 331 (h 331)) 332 (h 332)) 322 0 (nI 0) = am_row (am_row (am_row h 331 (h 331)) 332 (h 332)) 322 (upd (h 322) 0 (nI 0)) from am_up_rw _ _ _ _) ?_
  refine am_aload_n (pc := 5) C dX12_duel_5 rfl ?_
  refine am_aload_n (pc := 6) C dX12_duel_6 rfl ?_
  refine am_iload_n (pc := 7) C dX12_duel_7 rfl ?_
  refine am_callVi (Y := mX12_noSoldier) (pc := 8) (st := [.ref 322]) (As := [.int a]) (x := (am_b (!rf_okN a (rf_S (h 323))))) (h2 := (am_row (am_row (am_row h 331 (h 331)) 332 (h 332)) 322 (upd (h 322) 0 (nI 0)))) C dX12_duel_8 k12_322 v_X12_noSoldier rfl rfl bn_322 sh_322 ⟨by decide, rfl⟩ (by decide) (Nat.zero_le _) (Nat.zero_le _) (Nat.le_of_ble_eq_true rfl) (c_X12_noSoldier hR a (show rf_Cn (h 323) from hV.1)) ?_
  refine am_if_neB (pc := 11) (tgt := 22) C dX12_duel_11 (by decide) (fun q11 => ?_) (fun q11 => ?_)
  · skip
    refine am_iconstN (pc := 22) (k := 1) C dX12_duel_22 ?_
    refine am_goto (pc := 23) (tgt := 27) C dX12_duel_23 (by decide) ?_
    refine am_top (show (nI 1) = (am_b true) from rfl) ?_
    refine am_iconstN (pc := 27) (k := 1) C dX12_duel_27 ?_
    refine am_callVi (Y := mX12_throwsIf) (pc := 28) (st := []) (As := [.int (am_b true), .int (nI 1)]) (x := (am_b true)) (h2 := (am_row (am_row (am_row (am_row h 331 (h 331)) 332 (h 332)) 322 (upd (h 322) 0 (nI 0))) 322 (bif true then upd (upd (h 322) 0 (nI 0)) 0 (nI 1) else (upd (h 322) 0 (nI 0))))) C dX12_duel_28 k12_269 v_X12_throwsIf rfl rfl bn_322 sh_322 ⟨by decide, rfl⟩ (by decide) (Nat.zero_le _) (Nat.zero_le _) (Nat.le_of_ble_eq_true rfl) (c_X12_throwsIf hR true (nI 1)) ?_
    refine am_hp (show (am_row (am_row (am_row (am_row h 331 (h 331)) 332 (h 332)) 322 (upd (h 322) 0 (nI 0))) 322 (bif true then upd (upd (h 322) 0 (nI 0)) 0 (nI 1) else (upd (h 322) 0 (nI 0)))) = (am_row (am_row (am_row h 331 (h 331)) 332 (h 332)) 322 (bif true then upd (upd (h 322) 0 (nI 0)) 0 (nI 1) else (upd (h 322) 0 (nI 0)))) from am_row_s0) ?_
    refine am_hp (show (am_row (am_row (am_row h 331 (h 331)) 332 (h 332)) 322 (bif true then upd (upd (h 322) 0 (nI 0)) 0 (nI 1) else (upd (h 322) 0 (nI 0)))) = (am_row (am_row (am_row h 331 (h 331)) 332 (h 332)) 322 (upd (upd (h 322) 0 (nI 0)) 0 (nI 1))) from rfl) ?_
    refine am_if_neB (pc := 31) (tgt := 52) C dX12_duel_31 (by decide) (fun q31 => ?_) (fun q31 => ?_)
    · skip
      refine am_iconstN (pc := 52) (k := 0) C dX12_duel_52 ?_
      have K9 : rf_c_duel (h 323) a b = 1 := (by unfold rf_c_duel; exact (rf_cb_t q11))
      exact am_iretij (G := (am_row (am_row h 331 (h 331)) 332 (h 332))) T dX12_duel_53 rfl (Nat.le_refl _) (Nat.le_refl _) (by rw [K9]; rfl) rfl (by rw [K9]; exact congrArg (am_row _ 322) rf_upd_upd)
    · skip
      exact Bool.noConfusion q31
  · skip
    refine am_aload_n (pc := 14) C dX12_duel_14 rfl ?_
    refine am_iload_n (pc := 15) C dX12_duel_15 rfl ?_
    refine am_callVi (Y := mX12_noSoldier) (pc := 16) (st := [.ref 322]) (As := [.int b]) (x := (am_b (!rf_okN b (rf_S (h 323))))) (h2 := (am_row (am_row (am_row h 331 (h 331)) 332 (h 332)) 322 (upd (h 322) 0 (nI 0)))) C dX12_duel_16 k12_322 v_X12_noSoldier rfl rfl bn_322 sh_322 ⟨by decide, rfl⟩ (by decide) (Nat.zero_le _) (Nat.zero_le _) (Nat.le_of_ble_eq_true rfl) (c_X12_noSoldier hR b (show rf_Cn (h 323) from hV.1)) ?_
    refine am_if_eqB (pc := 19) (tgt := 26) C dX12_duel_19 (by decide) (fun q19 => ?_) (fun q19 => ?_)
    · skip
      refine am_iconstN (pc := 26) (k := 0) C dX12_duel_26 ?_
      refine am_top (show (nI 0) = (am_b false) from rfl) ?_
      refine am_iconstN (pc := 27) (k := 1) C dX12_duel_27 ?_
      refine am_callVi (Y := mX12_throwsIf) (pc := 28) (st := []) (As := [.int (am_b false), .int (nI 1)]) (x := (am_b false)) (h2 := (am_row (am_row (am_row (am_row h 331 (h 331)) 332 (h 332)) 322 (upd (h 322) 0 (nI 0))) 322 (bif false then upd (upd (h 322) 0 (nI 0)) 0 (nI 1) else (upd (h 322) 0 (nI 0))))) C dX12_duel_28 k12_269 v_X12_throwsIf rfl rfl bn_322 sh_322 ⟨by decide, rfl⟩ (by decide) (Nat.zero_le _) (Nat.zero_le _) (Nat.le_of_ble_eq_true rfl) (c_X12_throwsIf hR false (nI 1)) ?_
      refine am_hp (show (am_row (am_row (am_row (am_row h 331 (h 331)) 332 (h 332)) 322 (upd (h 322) 0 (nI 0))) 322 (bif false then upd (upd (h 322) 0 (nI 0)) 0 (nI 1) else (upd (h 322) 0 (nI 0)))) = (am_row (am_row (am_row h 331 (h 331)) 332 (h 332)) 322 (bif false then upd (upd (h 322) 0 (nI 0)) 0 (nI 1) else (upd (h 322) 0 (nI 0)))) from am_row_s0) ?_
      refine am_hp (show (am_row (am_row (am_row h 331 (h 331)) 332 (h 332)) 322 (bif false then upd (upd (h 322) 0 (nI 0)) 0 (nI 1) else (upd (h 322) 0 (nI 0)))) = (am_row (am_row (am_row h 331 (h 331)) 332 (h 332)) 322 (upd (h 322) 0 (nI 0))) from rfl) ?_
      refine am_if_neB (pc := 31) (tgt := 52) C dX12_duel_31 (by decide) (fun q31 => ?_) (fun q31 => ?_)
      · skip
        exact Bool.noConfusion q31
      · skip
        refine am_aload_n (pc := 34) C dX12_duel_34 rfl ?_
        refine am_iload_n (pc := 35) C dX12_duel_35 rfl ?_
        refine am_iload_n (pc := 36) C dX12_duel_36 rfl ?_
        refine am_icmp_ne (pc := 37) (tgt := 44) C dX12_duel_37 (by decide) (fun q37 => ?_) (fun q37 => ?_)
        · skip
          refine am_iconstN (pc := 44) (k := 0) C dX12_duel_44 ?_
          refine am_top (show (nI 0) = (am_b false) from rfl) ?_
          refine am_iconstN (pc := 45) (k := 2) C dX12_duel_45 ?_
          refine am_callVi (Y := mX12_throwsIf) (pc := 46) (st := []) (As := [.int (am_b false), .int (nI 2)]) (x := (am_b false)) (h2 := (am_row (am_row (am_row (am_row h 331 (h 331)) 332 (h 332)) 322 (upd (h 322) 0 (nI 0))) 322 (bif false then upd (upd (h 322) 0 (nI 0)) 0 (nI 2) else (upd (h 322) 0 (nI 0))))) C dX12_duel_46 k12_269 v_X12_throwsIf rfl rfl bn_322 sh_322 ⟨by decide, rfl⟩ (by decide) (Nat.zero_le _) (Nat.zero_le _) (Nat.le_of_ble_eq_true rfl) (c_X12_throwsIf hR false (nI 2)) ?_
          refine am_hp (show (am_row (am_row (am_row (am_row h 331 (h 331)) 332 (h 332)) 322 (upd (h 322) 0 (nI 0))) 322 (bif false then upd (upd (h 322) 0 (nI 0)) 0 (nI 2) else (upd (h 322) 0 (nI 0)))) = (am_row (am_row (am_row h 331 (h 331)) 332 (h 332)) 322 (bif false then upd (upd (h 322) 0 (nI 0)) 0 (nI 2) else (upd (h 322) 0 (nI 0)))) from am_row_s0) ?_
          refine am_hp (show (am_row (am_row (am_row h 331 (h 331)) 332 (h 332)) 322 (bif false then upd (upd (h 322) 0 (nI 0)) 0 (nI 2) else (upd (h 322) 0 (nI 0)))) = (am_row (am_row (am_row h 331 (h 331)) 332 (h 332)) 322 (upd (h 322) 0 (nI 0))) from rfl) ?_
          refine am_if_eqB (pc := 49) (tgt := 54) C dX12_duel_49 (by decide) (fun q49 => ?_) (fun q49 => ?_)
          · skip
            have ha := rf_okN_q (by omega) q11
            have ha2 := ha.2
            have hb := rf_okN_q (by omega) q19
            have hb2 := hb.2
            refine am_lsv (ls' := [(0, .ref 322), (1, .int (nI (rf_nat a))), (2, .int b)]) (congrArg (fun z9 : Int32 => ([(0, .ref 322), (1, Value.int z9), (2, .int b)] : List (Nat × Value))) (show a = (nI (rf_nat a)) from ha.1)) ?_
            refine am_lsv (ls' := [(0, .ref 322), (1, .int (nI (rf_nat a))), (2, .int (nI (rf_nat b)))]) (congrArg (fun z9 : Int32 => ([(0, .ref 322), (1, .int (nI (rf_nat a))), (2, Value.int z9)] : List (Nat × Value))) (show b = (nI (rf_nat b)) from hb.1)) ?_
            have K9 : rf_c_duel (h 323) a b = 0 := by unfold rf_c_duel; exact ((rf_cb_f q11).trans ((rf_cb_f q19).trans (rf_cb_f (decide_eq_false q37))))
            refine am_aload_n (pc := 54) C dX12_duel_54 rfl ?_
            refine am_iload_n (pc := 55) C dX12_duel_55 rfl ?_
            refine am_iload_n (pc := 56) C dX12_duel_56 rfl ?_
            refine am_callVi (Y := mX12_tooMany) (pc := 57) (st := []) (As := [.int (nI (rf_nat a)), .int (nI (rf_nat b))]) (x := (am_b (rf_many (h 323) (rf_nat a) (rf_nat b)))) (h2 := (am_row (am_row (am_row h 331 (h 331)) 332 (h 332)) 322 (upd (h 322) 0 (nI 0)))) C dX12_duel_57 k12_414 v_X12_tooMany rfl rfl bn_322 sh_322 ⟨by decide, rfl⟩ (by decide) (Nat.zero_le _) (Nat.zero_le _) (Nat.le_of_ble_eq_true rfl) (c_X12_tooMany hR (rf_nat a) (rf_nat b) hV (show (rf_nat a) < rf_S (h 323) from by omega) (show (rf_nat b) < rf_S (h 323) from by omega)) ?_
            refine am_if_eqB (pc := 60) (tgt := 66) C dX12_duel_60 (by decide) (fun q60 => ?_) (fun q60 => ?_)
            · skip
              have hmn : rf_many (h 323) (rf_nat a) (rf_nat b) = false := q60
              simp only [rf_many, Bool.or_eq_false_iff, decide_eq_false_iff_not] at hmn
              have ha7 : rf_kn (h 323) (rf_nat a) ≤ 7 := by omega
              have hb7 : rf_kn (h 323) (rf_nat b) ≤ 7 := by omega
              have hIa := hV.2.1 (rf_nat a) ha2
              have hIb := hV.2.1 (rf_nat b) hb2
              have hpa : 2 ^ rf_kn (h 323) (rf_nat a) ≤ 2 ^ 7 := Nat.pow_le_pow_right (by decide) ha7
              have hpb : 2 ^ rf_kn (h 323) (rf_nat b) ≤ 2 ^ 7 := Nat.pow_le_pow_right (by decide) hb7
              have hpa0 : 0 < 2 ^ rf_kn (h 323) (rf_nat a) := Nat.pow_pos (by decide)
              have hpb0 : 0 < 2 ^ rf_kn (h 323) (rf_nat b) := Nat.pow_pos (by decide)
              have hdw := fun x y (hx : x < 2 ^ rf_kn (h 323) (rf_nat a)) (hy : y < 2 ^ rf_kn (h 323) (rf_nat b)) => rf_dW_ok (fi := h 332) (wi := h 331) hIa hIb hM9 ha7 hb7 hx hy
              refine am_aload_n (pc := 66) C dX12_duel_66 rfl ?_
              refine am_iload_n (pc := 67) C dX12_duel_67 rfl ?_
              refine am_iload_n (pc := 68) C dX12_duel_68 rfl ?_
              refine am_callVv (Y := mX12_duels) (pc := 69) (st := []) (As := [.int (nI (rf_nat a)), .int (nI (rf_nat b))]) (h2 := (am_row (am_row (am_row (am_row (am_row h 331 (h 331)) 332 (h 332)) 322 (upd (h 322) 0 (nI 0))) 332 (rf_dF (h 323) (h 332) (rf_nat a) (rf_nat b))) 331 (rf_dW (h 323) (h 332) (h 331) (rf_nat a) (rf_nat b)))) C dX12_duel_69 k12_417 v_X12_duels rfl rfl bn_322 sh_322 ⟨by decide, rfl⟩ (by decide) (Nat.zero_le _) (Nat.zero_le _) (Nat.le_of_ble_eq_true rfl) (c_X12_duels hR (rf_nat a) (rf_nat b) (show rf_I (h 323) from hV) (show (rf_nat a) < rf_S (h 323) from ha2) (show (rf_nat b) < rf_S (h 323) from hb2) (show rf_kn (h 323) (rf_nat a) ≤ 7 from ha7) (show rf_kn (h 323) (rf_nat b) ≤ 7 from hb7)) ?_
              refine am_hp (show (am_row (am_row (am_row (am_row (am_row h 331 (h 331)) 332 (h 332)) 322 (upd (h 322) 0 (nI 0))) 332 (rf_dF (h 323) (h 332) (rf_nat a) (rf_nat b))) 331 (rf_dW (h 323) (h 332) (h 331) (rf_nat a) (rf_nat b))) = (am_row (am_row (am_row (am_row h 331 (h 331)) 332 (rf_dF (h 323) (h 332) (rf_nat a) (rf_nat b))) 322 (upd (h 322) 0 (nI 0))) 331 (rf_dW (h 323) (h 332) (h 331) (rf_nat a) (rf_nat b))) from by rw [show (am_row (am_row (am_row (am_row h 331 (h 331)) 332 (h 332)) 322 (upd (h 322) 0 (nI 0))) 332 (rf_dF (h 323) (h 332) (rf_nat a) (rf_nat b))) = (am_row (am_row (am_row h 331 (h 331)) 332 (rf_dF (h 323) (h 332) (rf_nat a) (rf_nat b))) 322 (upd (h 322) 0 (nI 0))) from am_row_s1 (by decide)]) ?_
              refine am_hp (show (am_row (am_row (am_row (am_row h 331 (h 331)) 332 (rf_dF (h 323) (h 332) (rf_nat a) (rf_nat b))) 322 (upd (h 322) 0 (nI 0))) 331 (rf_dW (h 323) (h 332) (h 331) (rf_nat a) (rf_nat b))) = (am_row (am_row (am_row h 331 (rf_dW (h 323) (h 332) (h 331) (rf_nat a) (rf_nat b))) 332 (rf_dF (h 323) (h 332) (rf_nat a) (rf_nat b))) 322 (upd (h 322) 0 (nI 0))) from am_row_s2 (by decide) (by decide)) ?_
              refine am_aload_n (pc := 72) C dX12_duel_72 rfl ?_
              refine am_getR (pc := 73) (j := 331) C dX12_duel_73 f12_43 bn_322 sh_322 (rf_322_18 hR) ?_
              refine am_iconstN (pc := 76) (k := 0) C dX12_duel_76 ?_
              refine am_iconstN (pc := 77) (k := 1) C dX12_duel_77 ?_
              refine am_aload_n (pc := 78) C dX12_duel_78 rfl ?_
              refine am_iload_n (pc := 79) C dX12_duel_79 rfl ?_
              refine am_bipush (pc := 80) (v := nI 9) C dX12_duel_80 (by decide) ?_
              refine am_callVi (Y := mX12_of) (pc := 82) (st := [.int (nI 1), .int (nI 0), .ref 331]) (As := [.int (nI (rf_nat a)), .int (nI 9)]) (x := (rf_of (h 323) (rf_nat a) 9)) (h2 := (am_row (am_row (am_row h 331 (rf_dW (h 323) (h 332) (h 331) (rf_nat a) (rf_nat b))) 332 (rf_dF (h 323) (h 332) (rf_nat a) (rf_nat b))) 322 (upd (h 322) 0 (nI 0)))) C dX12_duel_82 k12_63 v_X12_of rfl rfl bn_322 sh_322 ⟨by decide, rfl⟩ (by decide) (Nat.zero_le _) (Nat.zero_le _) (Nat.le_of_ble_eq_true rfl) (c_X12_of hR (rf_nat a) 9 (show (rf_nat a) < 11 from by omega) (show 9 < 23 from by omega)) ?_
              refine am_top (show (rf_of (h 323) (rf_nat a) 9) = (nI (rf_kn (h 323) (rf_nat a))) from (hV.2.1 (rf_nat a) (by omega)).2.2.2.2.1.1) ?_
              refine am_ishl (pc := 85) C dX12_duel_85 ?_
              refine am_top (show ((nI 1) <<< ((nI (rf_kn (h 323) (rf_nat a))) &&& 31)) = (nI (2 ^ rf_kn (h 323) (rf_nat a))) from (am_shl1 (by omega))) ?_
              refine am_iconstN (pc := 86) (k := 1) C dX12_duel_86 ?_
              refine am_isubN (pc := 87) C dX12_duel_87 (by omega) ?_
              refine am_iconstN (pc := 88) (k := 1) C dX12_duel_88 ?_
              refine am_aload_n (pc := 89) C dX12_duel_89 rfl ?_
              refine am_iload_n (pc := 90) C dX12_duel_90 rfl ?_
              refine am_bipush (pc := 91) (v := nI 9) C dX12_duel_91 (by decide) ?_
              refine am_callVi (Y := mX12_of) (pc := 93) (st := [.int (nI 1), .int (nI ((2 ^ rf_kn (h 323) (rf_nat a)) - 1)), .int (nI 0), .ref 331]) (As := [.int (nI (rf_nat b)), .int (nI 9)]) (x := (rf_of (h 323) (rf_nat b) 9)) (h2 := (am_row (am_row (am_row h 331 (rf_dW (h 323) (h 332) (h 331) (rf_nat a) (rf_nat b))) 332 (rf_dF (h 323) (h 332) (rf_nat a) (rf_nat b))) 322 (upd (h 322) 0 (nI 0)))) C dX12_duel_93 k12_63 v_X12_of rfl rfl bn_322 sh_322 ⟨by decide, rfl⟩ (by decide) (Nat.zero_le _) (Nat.zero_le _) (Nat.le_of_ble_eq_true rfl) (c_X12_of hR (rf_nat b) 9 (show (rf_nat b) < 11 from by omega) (show 9 < 23 from by omega)) ?_
              refine am_top (show (rf_of (h 323) (rf_nat b) 9) = (nI (rf_kn (h 323) (rf_nat b))) from (hV.2.1 (rf_nat b) (by omega)).2.2.2.2.1.1) ?_
              refine am_ishl (pc := 96) C dX12_duel_96 ?_
              refine am_top (show ((nI 1) <<< ((nI (rf_kn (h 323) (rf_nat b))) &&& 31)) = (nI (2 ^ rf_kn (h 323) (rf_nat b))) from (am_shl1 (by omega))) ?_
              refine am_iconstN (pc := 97) (k := 1) C dX12_duel_97 ?_
              refine am_isubN (pc := 98) C dX12_duel_98 (by omega) ?_
              refine am_callSi (Y := mX12_duelAt) (pc := 99) (st := [.ref 331]) (As := [.int (nI 0), .int (nI ((2 ^ rf_kn (h 323) (rf_nat a)) - 1)), .int (nI ((2 ^ rf_kn (h 323) (rf_nat b)) - 1))]) (x := (nI ((0 * 128 + ((2 ^ rf_kn (h 323) (rf_nat a)) - 1)) * 128 + ((2 ^ rf_kn (h 323) (rf_nat b)) - 1)))) (h2 := (am_row (am_row (am_row h 331 (rf_dW (h 323) (h 332) (h 331) (rf_nat a) (rf_nat b))) 332 (rf_dF (h 323) (h 332) (rf_nat a) (rf_nat b))) 322 (upd (h 322) 0 (nI 0)))) C dX12_duel_99 k12_405 v_X12_duelAt rfl rfl (by decide) (Nat.zero_le _) (Nat.zero_le _) (Nat.le_of_ble_eq_true rfl) (c_X12_duelAt hR 0 ((2 ^ rf_kn (h 323) (rf_nat a)) - 1) ((2 ^ rf_kn (h 323) (rf_nat b)) - 1)) ?_
              refine am_zaload (pc := 102) C dX12_duel_102 bn_331 sh_331 (vp_in_nI (by omega) (by decide)) ?_
              refine am_top (show (rf_dW (h 323) (h 332) (h 331) (rf_nat a) (rf_nat b)) (nI ((0 * 128 + ((2 ^ rf_kn (h 323) (rf_nat a)) - 1)) * 128 + ((2 ^ rf_kn (h 323) (rf_nat b)) - 1))).toNatClampNeg = (rf_dW (h 323) (h 332) (h 331) (rf_nat a) (rf_nat b)) ((0 * 128 + ((2 ^ rf_kn (h 323) (rf_nat a)) - 1)) * 128 + ((2 ^ rf_kn (h 323) (rf_nat b)) - 1)) from by rw [nI_clamp (by omega)]) ?_
              refine am_top (show ((rf_dW (h 323) (h 332) (h 331) (rf_nat a) (rf_nat b)) ((0 * 128 + ((2 ^ rf_kn (h 323) (rf_nat a)) - 1)) * 128 + ((2 ^ rf_kn (h 323) (rf_nat b)) - 1))) = (am_b (rf_race (rf_rc (h 323) (rf_nat a) (2 ^ rf_kn (h 323) (rf_nat a) - 1)) (rf_rc (h 323) (rf_nat b) (2 ^ rf_kn (h 323) (rf_nat b) - 1)))) from (hdw (2 ^ rf_kn (h 323) (rf_nat a) - 1) (2 ^ rf_kn (h 323) (rf_nat b) - 1) (by omega) (by omega)).1) ?_
              refine am_if_eqB (pc := 103) (tgt := 110) C dX12_duel_103 (by decide) (fun q103 => ?_) (fun q103 => ?_)
              · skip
                refine am_iload_n (pc := 110) C dX12_duel_110 rfl ?_
                have A9 : rf_a_duel (h 323) a b = (nI (rf_nat b)) := (by rw [rf_a_duel, q60]; show (bif _ then _ else _) = _; rw [q103]; rfl)
                exact am_iretij (G := (am_row (am_row h 331 (rf_dW (h 323) (h 332) (h 331) (rf_nat a) (rf_nat b))) 332 (rf_dF (h 323) (h 332) (rf_nat a) (rf_nat b)))) T dX12_duel_111 rfl (Nat.le_refl _) (Nat.le_refl _) (by rw [K9]; exact A9.symm) rfl (by rw [K9]; exact rfl)
              · skip
                refine am_iload_n (pc := 106) C dX12_duel_106 rfl ?_
                refine am_goto (pc := 107) (tgt := 111) C dX12_duel_107 (by decide) ?_
                have A9 : rf_a_duel (h 323) a b = (nI (rf_nat a)) := (by rw [rf_a_duel, q60]; show (bif _ then _ else _) = _; rw [q103]; rfl)
                exact am_iretij (G := (am_row (am_row h 331 (rf_dW (h 323) (h 332) (h 331) (rf_nat a) (rf_nat b))) 332 (rf_dF (h 323) (h 332) (rf_nat a) (rf_nat b)))) T dX12_duel_111 rfl (Nat.le_refl _) (Nat.le_refl _) (by rw [K9]; exact A9.symm) rfl (by rw [K9]; exact rfl)
            · skip
              refine am_bipush (pc := 63) (v := -3) C dX12_duel_63 (by decide) ?_
              have A9 : rf_a_duel (h 323) a b = (-3) := (by rw [rf_a_duel, q60]; rfl)
              exact am_iretij (G := (am_row (am_row h 331 (h 331)) 332 (h 332))) T dX12_duel_65 rfl (Nat.le_refl _) (Nat.le_refl _) (by rw [K9]; exact A9.symm) rfl (by rw [K9]; exact rfl)
          · skip
            exact Bool.noConfusion q49
        · skip
          refine am_iconstN (pc := 40) (k := 1) C dX12_duel_40 ?_
          refine am_goto (pc := 41) (tgt := 45) C dX12_duel_41 (by decide) ?_
          refine am_top (show (nI 1) = (am_b true) from rfl) ?_
          refine am_iconstN (pc := 45) (k := 2) C dX12_duel_45 ?_
          refine am_callVi (Y := mX12_throwsIf) (pc := 46) (st := []) (As := [.int (am_b true), .int (nI 2)]) (x := (am_b true)) (h2 := (am_row (am_row (am_row (am_row h 331 (h 331)) 332 (h 332)) 322 (upd (h 322) 0 (nI 0))) 322 (bif true then upd (upd (h 322) 0 (nI 0)) 0 (nI 2) else (upd (h 322) 0 (nI 0))))) C dX12_duel_46 k12_269 v_X12_throwsIf rfl rfl bn_322 sh_322 ⟨by decide, rfl⟩ (by decide) (Nat.zero_le _) (Nat.zero_le _) (Nat.le_of_ble_eq_true rfl) (c_X12_throwsIf hR true (nI 2)) ?_
          refine am_hp (show (am_row (am_row (am_row (am_row h 331 (h 331)) 332 (h 332)) 322 (upd (h 322) 0 (nI 0))) 322 (bif true then upd (upd (h 322) 0 (nI 0)) 0 (nI 2) else (upd (h 322) 0 (nI 0)))) = (am_row (am_row (am_row h 331 (h 331)) 332 (h 332)) 322 (bif true then upd (upd (h 322) 0 (nI 0)) 0 (nI 2) else (upd (h 322) 0 (nI 0)))) from am_row_s0) ?_
          refine am_hp (show (am_row (am_row (am_row h 331 (h 331)) 332 (h 332)) 322 (bif true then upd (upd (h 322) 0 (nI 0)) 0 (nI 2) else (upd (h 322) 0 (nI 0)))) = (am_row (am_row (am_row h 331 (h 331)) 332 (h 332)) 322 (upd (upd (h 322) 0 (nI 0)) 0 (nI 2))) from rfl) ?_
          refine am_if_eqB (pc := 49) (tgt := 54) C dX12_duel_49 (by decide) (fun q49 => ?_) (fun q49 => ?_)
          · skip
            exact Bool.noConfusion q49
          · skip
            refine am_iconstN (pc := 52) (k := 0) C dX12_duel_52 ?_
            have K9 : rf_c_duel (h 323) a b = 2 := (by unfold rf_c_duel; exact ((rf_cb_f q11).trans ((rf_cb_f q19).trans (rf_cb_t (decide_eq_true q37)))))
            exact am_iretij (G := (am_row (am_row h 331 (h 331)) 332 (h 332))) T dX12_duel_53 rfl (Nat.le_refl _) (Nat.le_refl _) (by rw [K9]; rfl) rfl (by rw [K9]; exact congrArg (am_row _ 322) rf_upd_upd)
    · skip
      refine am_iconstN (pc := 22) (k := 1) C dX12_duel_22 ?_
      refine am_goto (pc := 23) (tgt := 27) C dX12_duel_23 (by decide) ?_
      refine am_top (show (nI 1) = (am_b true) from rfl) ?_
      refine am_iconstN (pc := 27) (k := 1) C dX12_duel_27 ?_
      refine am_callVi (Y := mX12_throwsIf) (pc := 28) (st := []) (As := [.int (am_b true), .int (nI 1)]) (x := (am_b true)) (h2 := (am_row (am_row (am_row (am_row h 331 (h 331)) 332 (h 332)) 322 (upd (h 322) 0 (nI 0))) 322 (bif true then upd (upd (h 322) 0 (nI 0)) 0 (nI 1) else (upd (h 322) 0 (nI 0))))) C dX12_duel_28 k12_269 v_X12_throwsIf rfl rfl bn_322 sh_322 ⟨by decide, rfl⟩ (by decide) (Nat.zero_le _) (Nat.zero_le _) (Nat.le_of_ble_eq_true rfl) (c_X12_throwsIf hR true (nI 1)) ?_
      refine am_hp (show (am_row (am_row (am_row (am_row h 331 (h 331)) 332 (h 332)) 322 (upd (h 322) 0 (nI 0))) 322 (bif true then upd (upd (h 322) 0 (nI 0)) 0 (nI 1) else (upd (h 322) 0 (nI 0)))) = (am_row (am_row (am_row h 331 (h 331)) 332 (h 332)) 322 (bif true then upd (upd (h 322) 0 (nI 0)) 0 (nI 1) else (upd (h 322) 0 (nI 0)))) from am_row_s0) ?_
      refine am_hp (show (am_row (am_row (am_row h 331 (h 331)) 332 (h 332)) 322 (bif true then upd (upd (h 322) 0 (nI 0)) 0 (nI 1) else (upd (h 322) 0 (nI 0)))) = (am_row (am_row (am_row h 331 (h 331)) 332 (h 332)) 322 (upd (upd (h 322) 0 (nI 0)) 0 (nI 1))) from rfl) ?_
      refine am_if_neB (pc := 31) (tgt := 52) C dX12_duel_31 (by decide) (fun q31 => ?_) (fun q31 => ?_)
      · skip
        refine am_iconstN (pc := 52) (k := 0) C dX12_duel_52 ?_
        have K9 : rf_c_duel (h 323) a b = 1 := (by unfold rf_c_duel; exact ((rf_cb_f q11).trans (rf_cb_t q19)))
        exact am_iretij (G := (am_row (am_row h 331 (h 331)) 332 (h 332))) T dX12_duel_53 rfl (Nat.le_refl _) (Nat.le_refl _) (by rw [K9]; rfl) rfl (by rw [K9]; exact congrArg (am_row _ 322) rf_upd_upd)
      · skip
        exact Bool.noConfusion q31

set_option maxHeartbeats 400000 in
set_option maxRecDepth 100000 in
theorem c_X12_best {ad : Nat → Nat} {r : am_R} (hR : am_rs r) {h : am_H} (a : Int32) (b : Int32) (hV : rf_I (h 323))  : am_CM mX12_best 3 0 0 [.ref 322, .int a, .int b] (am_VV ad) r h (am_pj (some (.int (rf_ga (rf_c_best (h 323) a b) (rf_a_best (h 323) a b)))) r (fun G => (am_row (am_row (am_row h 331 (G 331)) 332 (G 332)) 322 (rf_oc (h 322) (rf_c_best (h 323) a b))))) := by
  refine am_CM.of (by decide +kernel) (Nat.le_of_ble_eq_true rfl) (fun X C T => ?_)
  show am_G X (am_VV ad) (0, 0) 0 [(0, .ref 322), (1, .int a), (2, .int b)] [] r h
  have hM9 : rf_M (h 323) < 17 := hV.1.1.2
  have hS9 : rf_S (h 323) < 11 := hV.1.2.1.2
  have hO9 : rf_O (h 323) < 11 := hV.1.2.2.2
  refine am_hp (show h = (am_row h 331 (h 331)) from (am_row_id _ _).symm) ?_
  refine am_hp (show (am_row h 331 (h 331)) = (am_row (am_row h 331 (h 331)) 332 (h 332)) from (am_row_id _ _).symm) ?_
  refine am_aload_n (pc := 0) C dX12_best_0 rfl ?_
  refine am_iconstN (pc := 1) (k := 0) C dX12_best_1 ?_
  refine am_putI (pc := 2) C dX12_best_2 f12_3 bn_322 sh_322 rfl rfl ?_
  refine am_hp (show am_up (am_row (am_row h 331 (h 331)) 332 (h 332)) 322 0 (nI 0) = am_row (am_row (am_row h 331 (h 331)) 332 (h 332)) 322 (upd (h 322) 0 (nI 0)) from am_up_rw _ _ _ _) ?_
  refine am_aload_n (pc := 5) C dX12_best_5 rfl ?_
  refine am_aload_n (pc := 6) C dX12_best_6 rfl ?_
  refine am_iload_n (pc := 7) C dX12_best_7 rfl ?_
  refine am_callVi (Y := mX12_noSoldier) (pc := 8) (st := [.ref 322]) (As := [.int a]) (x := (am_b (!rf_okN a (rf_S (h 323))))) (h2 := (am_row (am_row (am_row h 331 (h 331)) 332 (h 332)) 322 (upd (h 322) 0 (nI 0)))) C dX12_best_8 k12_322 v_X12_noSoldier rfl rfl bn_322 sh_322 ⟨by decide, rfl⟩ (by decide) (Nat.zero_le _) (Nat.zero_le _) (Nat.le_of_ble_eq_true rfl) (c_X12_noSoldier hR a (show rf_Cn (h 323) from hV.1)) ?_
  refine am_if_neB (pc := 11) (tgt := 22) C dX12_best_11 (by decide) (fun q11 => ?_) (fun q11 => ?_)
  · skip
    refine am_iconstN (pc := 22) (k := 1) C dX12_best_22 ?_
    refine am_goto (pc := 23) (tgt := 27) C dX12_best_23 (by decide) ?_
    refine am_top (show (nI 1) = (am_b true) from rfl) ?_
    refine am_iconstN (pc := 27) (k := 1) C dX12_best_27 ?_
    refine am_callVi (Y := mX12_throwsIf) (pc := 28) (st := []) (As := [.int (am_b true), .int (nI 1)]) (x := (am_b true)) (h2 := (am_row (am_row (am_row (am_row h 331 (h 331)) 332 (h 332)) 322 (upd (h 322) 0 (nI 0))) 322 (bif true then upd (upd (h 322) 0 (nI 0)) 0 (nI 1) else (upd (h 322) 0 (nI 0))))) C dX12_best_28 k12_269 v_X12_throwsIf rfl rfl bn_322 sh_322 ⟨by decide, rfl⟩ (by decide) (Nat.zero_le _) (Nat.zero_le _) (Nat.le_of_ble_eq_true rfl) (c_X12_throwsIf hR true (nI 1)) ?_
    refine am_hp (show (am_row (am_row (am_row (am_row h 331 (h 331)) 332 (h 332)) 322 (upd (h 322) 0 (nI 0))) 322 (bif true then upd (upd (h 322) 0 (nI 0)) 0 (nI 1) else (upd (h 322) 0 (nI 0)))) = (am_row (am_row (am_row h 331 (h 331)) 332 (h 332)) 322 (bif true then upd (upd (h 322) 0 (nI 0)) 0 (nI 1) else (upd (h 322) 0 (nI 0)))) from am_row_s0) ?_
    refine am_hp (show (am_row (am_row (am_row h 331 (h 331)) 332 (h 332)) 322 (bif true then upd (upd (h 322) 0 (nI 0)) 0 (nI 1) else (upd (h 322) 0 (nI 0)))) = (am_row (am_row (am_row h 331 (h 331)) 332 (h 332)) 322 (upd (upd (h 322) 0 (nI 0)) 0 (nI 1))) from rfl) ?_
    refine am_if_neB (pc := 31) (tgt := 52) C dX12_best_31 (by decide) (fun q31 => ?_) (fun q31 => ?_)
    · skip
      refine am_iconstN (pc := 52) (k := 0) C dX12_best_52 ?_
      have K9 : rf_c_best (h 323) a b = 1 := (by unfold rf_c_best; exact (rf_cb_t q11))
      exact am_iretij (G := (am_row (am_row h 331 (h 331)) 332 (h 332))) T dX12_best_53 rfl (Nat.le_refl _) (Nat.le_refl _) (by rw [K9]; rfl) rfl (by rw [K9]; exact congrArg (am_row _ 322) rf_upd_upd)
    · skip
      exact Bool.noConfusion q31
  · skip
    refine am_aload_n (pc := 14) C dX12_best_14 rfl ?_
    refine am_iload_n (pc := 15) C dX12_best_15 rfl ?_
    refine am_callVi (Y := mX12_noSoldier) (pc := 16) (st := [.ref 322]) (As := [.int b]) (x := (am_b (!rf_okN b (rf_S (h 323))))) (h2 := (am_row (am_row (am_row h 331 (h 331)) 332 (h 332)) 322 (upd (h 322) 0 (nI 0)))) C dX12_best_16 k12_322 v_X12_noSoldier rfl rfl bn_322 sh_322 ⟨by decide, rfl⟩ (by decide) (Nat.zero_le _) (Nat.zero_le _) (Nat.le_of_ble_eq_true rfl) (c_X12_noSoldier hR b (show rf_Cn (h 323) from hV.1)) ?_
    refine am_if_eqB (pc := 19) (tgt := 26) C dX12_best_19 (by decide) (fun q19 => ?_) (fun q19 => ?_)
    · skip
      refine am_iconstN (pc := 26) (k := 0) C dX12_best_26 ?_
      refine am_top (show (nI 0) = (am_b false) from rfl) ?_
      refine am_iconstN (pc := 27) (k := 1) C dX12_best_27 ?_
      refine am_callVi (Y := mX12_throwsIf) (pc := 28) (st := []) (As := [.int (am_b false), .int (nI 1)]) (x := (am_b false)) (h2 := (am_row (am_row (am_row (am_row h 331 (h 331)) 332 (h 332)) 322 (upd (h 322) 0 (nI 0))) 322 (bif false then upd (upd (h 322) 0 (nI 0)) 0 (nI 1) else (upd (h 322) 0 (nI 0))))) C dX12_best_28 k12_269 v_X12_throwsIf rfl rfl bn_322 sh_322 ⟨by decide, rfl⟩ (by decide) (Nat.zero_le _) (Nat.zero_le _) (Nat.le_of_ble_eq_true rfl) (c_X12_throwsIf hR false (nI 1)) ?_
      refine am_hp (show (am_row (am_row (am_row (am_row h 331 (h 331)) 332 (h 332)) 322 (upd (h 322) 0 (nI 0))) 322 (bif false then upd (upd (h 322) 0 (nI 0)) 0 (nI 1) else (upd (h 322) 0 (nI 0)))) = (am_row (am_row (am_row h 331 (h 331)) 332 (h 332)) 322 (bif false then upd (upd (h 322) 0 (nI 0)) 0 (nI 1) else (upd (h 322) 0 (nI 0)))) from am_row_s0) ?_
      refine am_hp (show (am_row (am_row (am_row h 331 (h 331)) 332 (h 332)) 322 (bif false then upd (upd (h 322) 0 (nI 0)) 0 (nI 1) else (upd (h 322) 0 (nI 0)))) = (am_row (am_row (am_row h 331 (h 331)) 332 (h 332)) 322 (upd (h 322) 0 (nI 0))) from rfl) ?_
      refine am_if_neB (pc := 31) (tgt := 52) C dX12_best_31 (by decide) (fun q31 => ?_) (fun q31 => ?_)
      · skip
        exact Bool.noConfusion q31
      · skip
        refine am_aload_n (pc := 34) C dX12_best_34 rfl ?_
        refine am_iload_n (pc := 35) C dX12_best_35 rfl ?_
        refine am_iload_n (pc := 36) C dX12_best_36 rfl ?_
        refine am_icmp_ne (pc := 37) (tgt := 44) C dX12_best_37 (by decide) (fun q37 => ?_) (fun q37 => ?_)
        · skip
          refine am_iconstN (pc := 44) (k := 0) C dX12_best_44 ?_
          refine am_top (show (nI 0) = (am_b false) from rfl) ?_
          refine am_iconstN (pc := 45) (k := 2) C dX12_best_45 ?_
          refine am_callVi (Y := mX12_throwsIf) (pc := 46) (st := []) (As := [.int (am_b false), .int (nI 2)]) (x := (am_b false)) (h2 := (am_row (am_row (am_row (am_row h 331 (h 331)) 332 (h 332)) 322 (upd (h 322) 0 (nI 0))) 322 (bif false then upd (upd (h 322) 0 (nI 0)) 0 (nI 2) else (upd (h 322) 0 (nI 0))))) C dX12_best_46 k12_269 v_X12_throwsIf rfl rfl bn_322 sh_322 ⟨by decide, rfl⟩ (by decide) (Nat.zero_le _) (Nat.zero_le _) (Nat.le_of_ble_eq_true rfl) (c_X12_throwsIf hR false (nI 2)) ?_
          refine am_hp (show (am_row (am_row (am_row (am_row h 331 (h 331)) 332 (h 332)) 322 (upd (h 322) 0 (nI 0))) 322 (bif false then upd (upd (h 322) 0 (nI 0)) 0 (nI 2) else (upd (h 322) 0 (nI 0)))) = (am_row (am_row (am_row h 331 (h 331)) 332 (h 332)) 322 (bif false then upd (upd (h 322) 0 (nI 0)) 0 (nI 2) else (upd (h 322) 0 (nI 0)))) from am_row_s0) ?_
          refine am_hp (show (am_row (am_row (am_row h 331 (h 331)) 332 (h 332)) 322 (bif false then upd (upd (h 322) 0 (nI 0)) 0 (nI 2) else (upd (h 322) 0 (nI 0)))) = (am_row (am_row (am_row h 331 (h 331)) 332 (h 332)) 322 (upd (h 322) 0 (nI 0))) from rfl) ?_
          refine am_if_eqB (pc := 49) (tgt := 54) C dX12_best_49 (by decide) (fun q49 => ?_) (fun q49 => ?_)
          · skip
            have ha := rf_okN_q (by omega) q11
            have ha2 := ha.2
            have hb := rf_okN_q (by omega) q19
            have hb2 := hb.2
            refine am_lsv (ls' := [(0, .ref 322), (1, .int (nI (rf_nat a))), (2, .int b)]) (congrArg (fun z9 : Int32 => ([(0, .ref 322), (1, Value.int z9), (2, .int b)] : List (Nat × Value))) (show a = (nI (rf_nat a)) from ha.1)) ?_
            refine am_lsv (ls' := [(0, .ref 322), (1, .int (nI (rf_nat a))), (2, .int (nI (rf_nat b)))]) (congrArg (fun z9 : Int32 => ([(0, .ref 322), (1, .int (nI (rf_nat a))), (2, Value.int z9)] : List (Nat × Value))) (show b = (nI (rf_nat b)) from hb.1)) ?_
            have K9 : rf_c_best (h 323) a b = 0 := by unfold rf_c_best; exact ((rf_cb_f q11).trans ((rf_cb_f q19).trans (rf_cb_f (decide_eq_false q37))))
            refine am_aload_n (pc := 54) C dX12_best_54 rfl ?_
            refine am_iload_n (pc := 55) C dX12_best_55 rfl ?_
            refine am_iload_n (pc := 56) C dX12_best_56 rfl ?_
            refine am_callVi (Y := mX12_tooMany) (pc := 57) (st := []) (As := [.int (nI (rf_nat a)), .int (nI (rf_nat b))]) (x := (am_b (rf_many (h 323) (rf_nat a) (rf_nat b)))) (h2 := (am_row (am_row (am_row h 331 (h 331)) 332 (h 332)) 322 (upd (h 322) 0 (nI 0)))) C dX12_best_57 k12_414 v_X12_tooMany rfl rfl bn_322 sh_322 ⟨by decide, rfl⟩ (by decide) (Nat.zero_le _) (Nat.zero_le _) (Nat.le_of_ble_eq_true rfl) (c_X12_tooMany hR (rf_nat a) (rf_nat b) hV (show (rf_nat a) < rf_S (h 323) from by omega) (show (rf_nat b) < rf_S (h 323) from by omega)) ?_
            refine am_if_eqB (pc := 60) (tgt := 66) C dX12_best_60 (by decide) (fun q60 => ?_) (fun q60 => ?_)
            · skip
              have hmn : rf_many (h 323) (rf_nat a) (rf_nat b) = false := q60
              simp only [rf_many, Bool.or_eq_false_iff, decide_eq_false_iff_not] at hmn
              have ha7 : rf_kn (h 323) (rf_nat a) ≤ 7 := by omega
              have hb7 : rf_kn (h 323) (rf_nat b) ≤ 7 := by omega
              have hIa := hV.2.1 (rf_nat a) ha2
              have hIb := hV.2.1 (rf_nat b) hb2
              have hpa : 2 ^ rf_kn (h 323) (rf_nat a) ≤ 2 ^ 7 := Nat.pow_le_pow_right (by decide) ha7
              have hpb : 2 ^ rf_kn (h 323) (rf_nat b) ≤ 2 ^ 7 := Nat.pow_le_pow_right (by decide) hb7
              have hpa0 : 0 < 2 ^ rf_kn (h 323) (rf_nat a) := Nat.pow_pos (by decide)
              have hpb0 : 0 < 2 ^ rf_kn (h 323) (rf_nat b) := Nat.pow_pos (by decide)
              have hdw := fun x y (hx : x < 2 ^ rf_kn (h 323) (rf_nat a)) (hy : y < 2 ^ rf_kn (h 323) (rf_nat b)) => rf_dW_ok (fi := h 332) (wi := h 331) hIa hIb hM9 ha7 hb7 hx hy
              refine am_aload_n (pc := 66) C dX12_best_66 rfl ?_
              refine am_iload_n (pc := 67) C dX12_best_67 rfl ?_
              refine am_iload_n (pc := 68) C dX12_best_68 rfl ?_
              refine am_callVv (Y := mX12_duels) (pc := 69) (st := []) (As := [.int (nI (rf_nat a)), .int (nI (rf_nat b))]) (h2 := (am_row (am_row (am_row (am_row (am_row h 331 (h 331)) 332 (h 332)) 322 (upd (h 322) 0 (nI 0))) 332 (rf_dF (h 323) (h 332) (rf_nat a) (rf_nat b))) 331 (rf_dW (h 323) (h 332) (h 331) (rf_nat a) (rf_nat b)))) C dX12_best_69 k12_417 v_X12_duels rfl rfl bn_322 sh_322 ⟨by decide, rfl⟩ (by decide) (Nat.zero_le _) (Nat.zero_le _) (Nat.le_of_ble_eq_true rfl) (c_X12_duels hR (rf_nat a) (rf_nat b) (show rf_I (h 323) from hV) (show (rf_nat a) < rf_S (h 323) from ha2) (show (rf_nat b) < rf_S (h 323) from hb2) (show rf_kn (h 323) (rf_nat a) ≤ 7 from ha7) (show rf_kn (h 323) (rf_nat b) ≤ 7 from hb7)) ?_
              refine am_hp (show (am_row (am_row (am_row (am_row (am_row h 331 (h 331)) 332 (h 332)) 322 (upd (h 322) 0 (nI 0))) 332 (rf_dF (h 323) (h 332) (rf_nat a) (rf_nat b))) 331 (rf_dW (h 323) (h 332) (h 331) (rf_nat a) (rf_nat b))) = (am_row (am_row (am_row (am_row h 331 (h 331)) 332 (rf_dF (h 323) (h 332) (rf_nat a) (rf_nat b))) 322 (upd (h 322) 0 (nI 0))) 331 (rf_dW (h 323) (h 332) (h 331) (rf_nat a) (rf_nat b))) from by rw [show (am_row (am_row (am_row (am_row h 331 (h 331)) 332 (h 332)) 322 (upd (h 322) 0 (nI 0))) 332 (rf_dF (h 323) (h 332) (rf_nat a) (rf_nat b))) = (am_row (am_row (am_row h 331 (h 331)) 332 (rf_dF (h 323) (h 332) (rf_nat a) (rf_nat b))) 322 (upd (h 322) 0 (nI 0))) from am_row_s1 (by decide)]) ?_
              refine am_hp (show (am_row (am_row (am_row (am_row h 331 (h 331)) 332 (rf_dF (h 323) (h 332) (rf_nat a) (rf_nat b))) 322 (upd (h 322) 0 (nI 0))) 331 (rf_dW (h 323) (h 332) (h 331) (rf_nat a) (rf_nat b))) = (am_row (am_row (am_row h 331 (rf_dW (h 323) (h 332) (h 331) (rf_nat a) (rf_nat b))) 332 (rf_dF (h 323) (h 332) (rf_nat a) (rf_nat b))) 322 (upd (h 322) 0 (nI 0))) from am_row_s2 (by decide) (by decide)) ?_
              refine am_iconstN (pc := 72) (k := 1) C dX12_best_72 ?_
              refine am_aload_n (pc := 73) C dX12_best_73 rfl ?_
              refine am_iload_n (pc := 74) C dX12_best_74 rfl ?_
              refine am_bipush (pc := 75) (v := nI 9) C dX12_best_75 (by decide) ?_
              refine am_callVi (Y := mX12_of) (pc := 77) (st := [.int (nI 1)]) (As := [.int (nI (rf_nat a)), .int (nI 9)]) (x := (rf_of (h 323) (rf_nat a) 9)) (h2 := (am_row (am_row (am_row h 331 (rf_dW (h 323) (h 332) (h 331) (rf_nat a) (rf_nat b))) 332 (rf_dF (h 323) (h 332) (rf_nat a) (rf_nat b))) 322 (upd (h 322) 0 (nI 0)))) C dX12_best_77 k12_63 v_X12_of rfl rfl bn_322 sh_322 ⟨by decide, rfl⟩ (by decide) (Nat.zero_le _) (Nat.zero_le _) (Nat.le_of_ble_eq_true rfl) (c_X12_of hR (rf_nat a) 9 (show (rf_nat a) < 11 from by omega) (show 9 < 23 from by omega)) ?_
              refine am_top (show (rf_of (h 323) (rf_nat a) 9) = (nI (rf_kn (h 323) (rf_nat a))) from (hV.2.1 (rf_nat a) (by omega)).2.2.2.2.1.1) ?_
              refine am_ishl (pc := 80) C dX12_best_80 ?_
              refine am_top (show ((nI 1) <<< ((nI (rf_kn (h 323) (rf_nat a))) &&& 31)) = (nI (2 ^ rf_kn (h 323) (rf_nat a))) from (am_shl1 (by omega))) ?_
              refine am_iconstN (pc := 81) (k := 1) C dX12_best_81 ?_
              refine am_isubN (pc := 82) C dX12_best_82 (by omega) ?_
              refine am_istore_n (pc := 83) (ls' := [(0, .ref 322), (1, .int (nI (rf_nat a))), (2, .int (nI (rf_nat b))), (3, .int (nI ((2 ^ rf_kn (h 323) (rf_nat a)) - 1)))]) C dX12_best_83 (by decide) rfl ?_
              refine am_iconstN (pc := 84) (k := 1) C dX12_best_84 ?_
              refine am_aload_n (pc := 85) C dX12_best_85 rfl ?_
              refine am_iload_n (pc := 86) C dX12_best_86 rfl ?_
              refine am_bipush (pc := 87) (v := nI 9) C dX12_best_87 (by decide) ?_
              refine am_callVi (Y := mX12_of) (pc := 89) (st := [.int (nI 1)]) (As := [.int (nI (rf_nat b)), .int (nI 9)]) (x := (rf_of (h 323) (rf_nat b) 9)) (h2 := (am_row (am_row (am_row h 331 (rf_dW (h 323) (h 332) (h 331) (rf_nat a) (rf_nat b))) 332 (rf_dF (h 323) (h 332) (rf_nat a) (rf_nat b))) 322 (upd (h 322) 0 (nI 0)))) C dX12_best_89 k12_63 v_X12_of rfl rfl bn_322 sh_322 ⟨by decide, rfl⟩ (by decide) (Nat.zero_le _) (Nat.zero_le _) (Nat.le_of_ble_eq_true rfl) (c_X12_of hR (rf_nat b) 9 (show (rf_nat b) < 11 from by omega) (show 9 < 23 from by omega)) ?_
              refine am_top (show (rf_of (h 323) (rf_nat b) 9) = (nI (rf_kn (h 323) (rf_nat b))) from (hV.2.1 (rf_nat b) (by omega)).2.2.2.2.1.1) ?_
              refine am_ishl (pc := 92) C dX12_best_92 ?_
              refine am_top (show ((nI 1) <<< ((nI (rf_kn (h 323) (rf_nat b))) &&& 31)) = (nI (2 ^ rf_kn (h 323) (rf_nat b))) from (am_shl1 (by omega))) ?_
              refine am_iconstN (pc := 93) (k := 1) C dX12_best_93 ?_
              refine am_isubN (pc := 94) C dX12_best_94 (by omega) ?_
              refine am_istore (pc := 95) (ls' := [(0, .ref 322), (1, .int (nI (rf_nat a))), (2, .int (nI (rf_nat b))), (3, .int (nI ((2 ^ rf_kn (h 323) (rf_nat a)) - 1))), (4, .int (nI ((2 ^ rf_kn (h 323) (rf_nat b)) - 1)))]) C dX12_best_95 (by decide) rfl ?_
              refine am_aload_n (pc := 97) C dX12_best_97 rfl ?_
              refine am_getR (pc := 98) (j := 332) C dX12_best_98 f12_47 bn_322 sh_322 (rf_322_19 hR) ?_
              refine am_iload_n (pc := 101) C dX12_best_101 rfl ?_
              refine am_zaload (pc := 102) C dX12_best_102 bn_332 sh_332 (vp_in_nI (by omega) (by decide)) ?_
              refine am_top (show (rf_dF (h 323) (h 332) (rf_nat a) (rf_nat b)) (nI ((2 ^ rf_kn (h 323) (rf_nat a)) - 1)).toNatClampNeg = (rf_dF (h 323) (h 332) (rf_nat a) (rf_nat b)) ((2 ^ rf_kn (h 323) (rf_nat a)) - 1) from by rw [nI_clamp (by omega)]) ?_
              refine am_top (show ((rf_dF (h 323) (h 332) (rf_nat a) (rf_nat b)) ((2 ^ rf_kn (h 323) (rf_nat a)) - 1)) = (am_b (decide (0 < (rf_rc (h 323) (rf_nat a) (2 ^ rf_kn (h 323) (rf_nat a) - 1))))) from (rf_dF_0 hIa hM9 ha7 (show (2 ^ rf_kn (h 323) (rf_nat a) - 1) < _ by omega))) ?_
              refine am_if_neB (pc := 103) (tgt := 108) C dX12_best_103 (by decide) (fun q103 => ?_) (fun q103 => ?_)
              · skip
                refine am_iconst (pc := 108) (v := -1) C dX12_best_108 rfl ?_
                refine am_istore (pc := 109) (ls' := [(0, .ref 322), (1, .int (nI (rf_nat a))), (2, .int (nI (rf_nat b))), (3, .int (nI ((2 ^ rf_kn (h 323) (rf_nat a)) - 1))), (4, .int (nI ((2 ^ rf_kn (h 323) (rf_nat b)) - 1))), (5, .int (-1))]) C dX12_best_109 (by decide) rfl ?_
                refine am_iconstN (pc := 111) (k := 0) C dX12_best_111 ?_
                refine am_istore (pc := 112) (ls' := [(0, .ref 322), (1, .int (nI (rf_nat a))), (2, .int (nI (rf_nat b))), (3, .int (nI ((2 ^ rf_kn (h 323) (rf_nat a)) - 1))), (4, .int (nI ((2 ^ rf_kn (h 323) (rf_nat b)) - 1))), (5, .int (-1)), (6, .int (nI 0))]) C dX12_best_112 (by decide) rfl ?_
                have L114 : ∀ (j114 i114 : Nat), i114 + j114 = rf_kn (h 323) (rf_nat b) → am_G X (am_VV ad) (0, 0) 114 [(0, .ref 322), (1, .int (nI (rf_nat a))), (2, .int (nI (rf_nat b))), (3, .int (nI ((2 ^ rf_kn (h 323) (rf_nat a)) - 1))), (4, .int (nI ((2 ^ rf_kn (h 323) (rf_nat b)) - 1))), (5, .int (am_oi (rf_bst (h 323) (rf_nat a) (rf_nat b) i114))), (6, .int (nI i114))] [] r (am_row (am_row (am_row h 331 (rf_dW (h 323) (h 332) (h 331) (rf_nat a) (rf_nat b))) 332 (rf_dF (h 323) (h 332) (rf_nat a) (rf_nat b))) 322 (upd (h 322) 0 (nI 0))) := by
                  intro j114
                  induction j114 with
                  | zero =>
                    intro i114 hi114 
                    obtain rfl : i114 = rf_kn (h 323) (rf_nat b) := by omega
                    refine am_iload (pc := 114) C dX12_best_114 rfl ?_
                    refine am_aload_n (pc := 116) C dX12_best_116 rfl ?_
                    refine am_iload_n (pc := 117) C dX12_best_117 rfl ?_
                    refine am_bipush (pc := 118) (v := nI 9) C dX12_best_118 (by decide) ?_
                    refine am_callVi (Y := mX12_of) (pc := 120) (st := [.int (nI (rf_kn (h 323) (rf_nat b)))]) (As := [.int (nI (rf_nat b)), .int (nI 9)]) (x := (rf_of (h 323) (rf_nat b) 9)) (h2 := (am_row (am_row (am_row h 331 (rf_dW (h 323) (h 332) (h 331) (rf_nat a) (rf_nat b))) 332 (rf_dF (h 323) (h 332) (rf_nat a) (rf_nat b))) 322 (upd (h 322) 0 (nI 0)))) C dX12_best_120 k12_63 v_X12_of rfl rfl bn_322 sh_322 ⟨by decide, rfl⟩ (by decide) (Nat.zero_le _) (Nat.zero_le _) (Nat.le_of_ble_eq_true rfl) (c_X12_of hR (rf_nat b) 9 (show (rf_nat b) < 11 from by omega) (show 9 < 23 from by omega)) ?_
                    refine am_top (show (rf_of (h 323) (rf_nat b) 9) = (nI (rf_kn (h 323) (rf_nat b))) from (hV.2.1 (rf_nat b) (by omega)).2.2.2.2.1.1) ?_
                    refine am_icmp_geN (pc := 123) (tgt := 182) C dX12_best_123 (by decide) (by omega) (by omega) (fun q123 => ?_) (fun q123 => ?_)
                    · skip
                      refine am_iload (pc := 182) C dX12_best_182 rfl ?_
                      have A9 : rf_a_best (h 323) a b = (am_oi (rf_bst (h 323) (rf_nat a) (rf_nat b) (rf_kn (h 323) (rf_nat b)))) := (by rw [rf_a_best, q60, if_pos (of_decide_eq_true q103)]; rfl)
                      exact am_iretij (G := (am_row (am_row h 331 (rf_dW (h 323) (h 332) (h 331) (rf_nat a) (rf_nat b))) 332 (rf_dF (h 323) (h 332) (rf_nat a) (rf_nat b)))) T dX12_best_184 rfl (Nat.le_refl _) (Nat.le_refl _) (by rw [K9]; exact A9.symm) rfl (by rw [K9]; exact rfl)
                    · skip
                      exact absurd q123 (by omega)
                  | succ j114 ih114 =>
                    intro i114 hi114 
                    have hl114 : i114 < rf_kn (h 323) (rf_nat b) := by omega
                    have hli9 := rf_li_lt hIb hl114
                    have hwl9 : rf_wo (2 ^ rf_kn (h 323) (rf_nat b) - 1) i114 < 128 := rf_wo_lt (j := 7) (by omega) (by omega)
                    have hbl9 := rf_bst_le (a := rf_nat a) hIb i114 (by omega)
                    refine am_iload (pc := 114) C dX12_best_114 rfl ?_
                    refine am_aload_n (pc := 116) C dX12_best_116 rfl ?_
                    refine am_iload_n (pc := 117) C dX12_best_117 rfl ?_
                    refine am_bipush (pc := 118) (v := nI 9) C dX12_best_118 (by decide) ?_
                    refine am_callVi (Y := mX12_of) (pc := 120) (st := [.int (nI i114)]) (As := [.int (nI (rf_nat b)), .int (nI 9)]) (x := (rf_of (h 323) (rf_nat b) 9)) (h2 := (am_row (am_row (am_row h 331 (rf_dW (h 323) (h 332) (h 331) (rf_nat a) (rf_nat b))) 332 (rf_dF (h 323) (h 332) (rf_nat a) (rf_nat b))) 322 (upd (h 322) 0 (nI 0)))) C dX12_best_120 k12_63 v_X12_of rfl rfl bn_322 sh_322 ⟨by decide, rfl⟩ (by decide) (Nat.zero_le _) (Nat.zero_le _) (Nat.le_of_ble_eq_true rfl) (c_X12_of hR (rf_nat b) 9 (show (rf_nat b) < 11 from by omega) (show 9 < 23 from by omega)) ?_
                    refine am_top (show (rf_of (h 323) (rf_nat b) 9) = (nI (rf_kn (h 323) (rf_nat b))) from (hV.2.1 (rf_nat b) (by omega)).2.2.2.2.1.1) ?_
                    refine am_icmp_geN (pc := 123) (tgt := 182) C dX12_best_123 (by decide) (by omega) (by omega) (fun q123 => ?_) (fun q123 => ?_)
                    · skip
                      exact absurd q123 (by omega)
                    · skip
                      refine am_aload_n (pc := 126) C dX12_best_126 rfl ?_
                      refine am_iload_n (pc := 127) C dX12_best_127 rfl ?_
                      refine am_bipush (pc := 128) (v := nI 10) C dX12_best_128 (by decide) ?_
                      refine am_iload (pc := 130) C dX12_best_130 rfl ?_
                      refine am_iaddN (pc := 132) C dX12_best_132 ?_
                      refine am_callVi (Y := mX12_of) (pc := 133) (st := []) (As := [.int (nI (rf_nat b)), .int (nI (10 + i114))]) (x := (rf_of (h 323) (rf_nat b) (10 + i114))) (h2 := (am_row (am_row (am_row h 331 (rf_dW (h 323) (h 332) (h 331) (rf_nat a) (rf_nat b))) 332 (rf_dF (h 323) (h 332) (rf_nat a) (rf_nat b))) 322 (upd (h 322) 0 (nI 0)))) C dX12_best_133 k12_63 v_X12_of rfl rfl bn_322 sh_322 ⟨by decide, rfl⟩ (by decide) (Nat.zero_le _) (Nat.zero_le _) (Nat.le_of_ble_eq_true rfl) (c_X12_of hR (rf_nat b) (10 + i114) (show (rf_nat b) < 11 from by omega) (show (10 + i114) < 23 from by omega)) ?_
                      refine am_top (show (rf_of (h 323) (rf_nat b) (10 + i114)) = (nI (rf_li (h 323) (rf_nat b) i114)) from (hIb.2.2.2.2.2.1 i114 hl114).1) ?_
                      refine am_istore (pc := 136) (ls' := [(0, .ref 322), (1, .int (nI (rf_nat a))), (2, .int (nI (rf_nat b))), (3, .int (nI ((2 ^ rf_kn (h 323) (rf_nat a)) - 1))), (4, .int (nI ((2 ^ rf_kn (h 323) (rf_nat b)) - 1))), (5, .int (am_oi (rf_bst (h 323) (rf_nat a) (rf_nat b) i114))), (6, .int (nI i114)), (7, .int (nI (rf_li (h 323) (rf_nat b) i114)))]) C dX12_best_136 (by decide) rfl ?_
                      refine am_aload_n (pc := 138) C dX12_best_138 rfl ?_
                      refine am_getR (pc := 139) (j := 331) C dX12_best_139 f12_43 bn_322 sh_322 (rf_322_18 hR) ?_
                      refine am_iconstN (pc := 142) (k := 1) C dX12_best_142 ?_
                      refine am_iload (pc := 143) C dX12_best_143 rfl ?_
                      refine am_iconstN (pc := 145) (k := 1) C dX12_best_145 ?_
                      refine am_iload (pc := 146) C dX12_best_146 rfl ?_
                      refine am_ishl (pc := 148) C dX12_best_148 ?_
                      refine am_iconst (pc := 149) (v := -1) C dX12_best_149 rfl ?_
                      refine am_ixor (pc := 150) C dX12_best_150 ?_
                      refine am_iand (pc := 151) C dX12_best_151 ?_
                      refine am_top (show ((nI ((2 ^ rf_kn (h 323) (rf_nat b)) - 1)) &&& (((nI 1) <<< ((nI i114) &&& 31)) ^^^ (-1))) = (nI (rf_wo (2 ^ rf_kn (h 323) (rf_nat b) - 1) i114)) from (rf_wo_eq (by omega))) ?_
                      refine am_iload_n (pc := 152) C dX12_best_152 rfl ?_
                      refine am_callSi (Y := mX12_duelAt) (pc := 153) (st := [.ref 331]) (As := [.int (nI 1), .int (nI (rf_wo (2 ^ rf_kn (h 323) (rf_nat b) - 1) i114)), .int (nI ((2 ^ rf_kn (h 323) (rf_nat a)) - 1))]) (x := (nI ((1 * 128 + (rf_wo (2 ^ rf_kn (h 323) (rf_nat b) - 1) i114)) * 128 + ((2 ^ rf_kn (h 323) (rf_nat a)) - 1)))) (h2 := (am_row (am_row (am_row h 331 (rf_dW (h 323) (h 332) (h 331) (rf_nat a) (rf_nat b))) 332 (rf_dF (h 323) (h 332) (rf_nat a) (rf_nat b))) 322 (upd (h 322) 0 (nI 0)))) C dX12_best_153 k12_405 v_X12_duelAt rfl rfl (by decide) (Nat.zero_le _) (Nat.zero_le _) (Nat.le_of_ble_eq_true rfl) (c_X12_duelAt hR 1 (rf_wo (2 ^ rf_kn (h 323) (rf_nat b) - 1) i114) ((2 ^ rf_kn (h 323) (rf_nat a)) - 1)) ?_
                      refine am_zaload (pc := 156) C dX12_best_156 bn_331 sh_331 (vp_in_nI (by omega) (by decide)) ?_
                      refine am_top (show (rf_dW (h 323) (h 332) (h 331) (rf_nat a) (rf_nat b)) (nI ((1 * 128 + (rf_wo (2 ^ rf_kn (h 323) (rf_nat b) - 1) i114)) * 128 + ((2 ^ rf_kn (h 323) (rf_nat a)) - 1))).toNatClampNeg = (rf_dW (h 323) (h 332) (h 331) (rf_nat a) (rf_nat b)) ((1 * 128 + (rf_wo (2 ^ rf_kn (h 323) (rf_nat b) - 1) i114)) * 128 + ((2 ^ rf_kn (h 323) (rf_nat a)) - 1)) from by rw [nI_clamp (by omega)]) ?_
                      refine am_top (show ((rf_dW (h 323) (h 332) (h 331) (rf_nat a) (rf_nat b)) ((1 * 128 + (rf_wo (2 ^ rf_kn (h 323) (rf_nat b) - 1) i114)) * 128 + ((2 ^ rf_kn (h 323) (rf_nat a)) - 1))) = (am_b (rf_race (rf_rc (h 323) (rf_nat b) (rf_wo (2 ^ rf_kn (h 323) (rf_nat b) - 1) i114)) (rf_rc (h 323) (rf_nat a) (2 ^ rf_kn (h 323) (rf_nat a) - 1)))) from (hdw (2 ^ rf_kn (h 323) (rf_nat a) - 1) (rf_wo (2 ^ rf_kn (h 323) (rf_nat b) - 1) i114) (by omega) (rf_wo_lt (by omega) (by omega))).2) ?_
                      refine am_if_neB (pc := 157) (tgt := 176) C dX12_best_157 (by decide) (fun q157 => ?_) (fun q157 => ?_)
                      · skip
                        refine am_iincN (pc := 176) (ls' := [(0, .ref 322), (1, .int (nI (rf_nat a))), (2, .int (nI (rf_nat b))), (3, .int (nI ((2 ^ rf_kn (h 323) (rf_nat a)) - 1))), (4, .int (nI ((2 ^ rf_kn (h 323) (rf_nat b)) - 1))), (5, .int (am_oi (rf_bst (h 323) (rf_nat a) (rf_nat b) i114))), (6, .int (nI (i114 + 1))), (7, .int (nI (rf_li (h 323) (rf_nat b) i114)))]) C dX12_best_176 rfl (am_up1 _) (by decide) rfl ?_
                        refine am_goto (pc := 179) (tgt := 114) C dX12_best_179 (by decide) ?_
                        refine am_sub (ls' := [(0, .ref 322), (1, .int (nI (rf_nat a))), (2, .int (nI (rf_nat b))), (3, .int (nI ((2 ^ rf_kn (h 323) (rf_nat a)) - 1))), (4, .int (nI ((2 ^ rf_kn (h 323) (rf_nat b)) - 1))), (5, .int (am_oi (rf_bst (h 323) (rf_nat a) (rf_nat b) i114))), (6, .int (nI (i114 + 1)))]) (by intro q hq; simp only [List.mem_cons, List.not_mem_nil, or_false] at hq ⊢; rcases hq with rfl | rfl | rfl | rfl | rfl | rfl | rfl <;> simp) ?_
                        refine am_lsv (ls' := [(0, .ref 322), (1, .int (nI (rf_nat a))), (2, .int (nI (rf_nat b))), (3, .int (nI ((2 ^ rf_kn (h 323) (rf_nat a)) - 1))), (4, .int (nI ((2 ^ rf_kn (h 323) (rf_nat b)) - 1))), (5, .int (am_oi (rf_bst (h 323) (rf_nat a) (rf_nat b) (i114 + 1)))), (6, .int (nI (i114 + 1)))]) (by rw [show (am_oi (rf_bst (h 323) (rf_nat a) (rf_nat b) i114)) = (am_oi (rf_bst (h 323) (rf_nat a) (rf_nat b) (i114 + 1))) from rf_bst_n (fun z => Bool.false_ne_true (z.1.symm.trans q157))]) ?_
                        exact ih114 (i114 + 1) (by omega) 
                      · skip
                        refine am_iload (pc := 160) C dX12_best_160 rfl ?_
                        refine am_if_ltO (pc := 162) (tgt := 172) C dX12_best_162 (by decide) (by omega) (fun q162 => ?_) (fun q162 => ?_)
                        · skip
                          refine am_iload (pc := 172) C dX12_best_172 rfl ?_
                          refine am_istore (pc := 174) (ls' := [(0, .ref 322), (1, .int (nI (rf_nat a))), (2, .int (nI (rf_nat b))), (3, .int (nI ((2 ^ rf_kn (h 323) (rf_nat a)) - 1))), (4, .int (nI ((2 ^ rf_kn (h 323) (rf_nat b)) - 1))), (5, .int (nI (rf_li (h 323) (rf_nat b) i114))), (6, .int (nI i114)), (7, .int (nI (rf_li (h 323) (rf_nat b) i114)))]) C dX12_best_174 (by decide) rfl ?_
                          refine am_iincN (pc := 176) (ls' := [(0, .ref 322), (1, .int (nI (rf_nat a))), (2, .int (nI (rf_nat b))), (3, .int (nI ((2 ^ rf_kn (h 323) (rf_nat a)) - 1))), (4, .int (nI ((2 ^ rf_kn (h 323) (rf_nat b)) - 1))), (5, .int (nI (rf_li (h 323) (rf_nat b) i114))), (6, .int (nI (i114 + 1))), (7, .int (nI (rf_li (h 323) (rf_nat b) i114)))]) C dX12_best_176 rfl (am_up1 _) (by decide) rfl ?_
                          refine am_goto (pc := 179) (tgt := 114) C dX12_best_179 (by decide) ?_
                          refine am_sub (ls' := [(0, .ref 322), (1, .int (nI (rf_nat a))), (2, .int (nI (rf_nat b))), (3, .int (nI ((2 ^ rf_kn (h 323) (rf_nat a)) - 1))), (4, .int (nI ((2 ^ rf_kn (h 323) (rf_nat b)) - 1))), (5, .int (nI (rf_li (h 323) (rf_nat b) i114))), (6, .int (nI (i114 + 1)))]) (by intro q hq; simp only [List.mem_cons, List.not_mem_nil, or_false] at hq ⊢; rcases hq with rfl | rfl | rfl | rfl | rfl | rfl | rfl <;> simp) ?_
                          refine am_lsv (ls' := [(0, .ref 322), (1, .int (nI (rf_nat a))), (2, .int (nI (rf_nat b))), (3, .int (nI ((2 ^ rf_kn (h 323) (rf_nat a)) - 1))), (4, .int (nI ((2 ^ rf_kn (h 323) (rf_nat b)) - 1))), (5, .int (am_oi (rf_bst (h 323) (rf_nat a) (rf_nat b) (i114 + 1)))), (6, .int (nI (i114 + 1)))]) (by rw [show (nI (rf_li (h 323) (rf_nat b) i114)) = (am_oi (rf_bst (h 323) (rf_nat a) (rf_nat b) (i114 + 1))) from rf_bst_y ⟨q157, Or.inl (by omega)⟩]) ?_
                          exact ih114 (i114 + 1) (by omega) 
                        · skip
                          refine am_iload (pc := 165) C dX12_best_165 rfl ?_
                          refine am_iload (pc := 167) C dX12_best_167 rfl ?_
                          refine am_top (show (am_oi (rf_bst (h 323) (rf_nat a) (rf_nat b) i114)) = (nI ((rf_bst (h 323) (rf_nat a) (rf_nat b) i114) - 1)) from (am_oi_p q162)) ?_
                          refine am_icmp_geN (pc := 169) (tgt := 176) C dX12_best_169 (by decide) (by omega) (by omega) (fun q169 => ?_) (fun q169 => ?_)
                          · skip
                            refine am_iincN (pc := 176) (ls' := [(0, .ref 322), (1, .int (nI (rf_nat a))), (2, .int (nI (rf_nat b))), (3, .int (nI ((2 ^ rf_kn (h 323) (rf_nat a)) - 1))), (4, .int (nI ((2 ^ rf_kn (h 323) (rf_nat b)) - 1))), (5, .int (am_oi (rf_bst (h 323) (rf_nat a) (rf_nat b) i114))), (6, .int (nI (i114 + 1))), (7, .int (nI (rf_li (h 323) (rf_nat b) i114)))]) C dX12_best_176 rfl (am_up1 _) (by decide) rfl ?_
                            refine am_goto (pc := 179) (tgt := 114) C dX12_best_179 (by decide) ?_
                            refine am_sub (ls' := [(0, .ref 322), (1, .int (nI (rf_nat a))), (2, .int (nI (rf_nat b))), (3, .int (nI ((2 ^ rf_kn (h 323) (rf_nat a)) - 1))), (4, .int (nI ((2 ^ rf_kn (h 323) (rf_nat b)) - 1))), (5, .int (am_oi (rf_bst (h 323) (rf_nat a) (rf_nat b) i114))), (6, .int (nI (i114 + 1)))]) (by intro q hq; simp only [List.mem_cons, List.not_mem_nil, or_false] at hq ⊢; rcases hq with rfl | rfl | rfl | rfl | rfl | rfl | rfl <;> simp) ?_
                            refine am_lsv (ls' := [(0, .ref 322), (1, .int (nI (rf_nat a))), (2, .int (nI (rf_nat b))), (3, .int (nI ((2 ^ rf_kn (h 323) (rf_nat a)) - 1))), (4, .int (nI ((2 ^ rf_kn (h 323) (rf_nat b)) - 1))), (5, .int (am_oi (rf_bst (h 323) (rf_nat a) (rf_nat b) (i114 + 1)))), (6, .int (nI (i114 + 1)))]) (by rw [show (am_oi (rf_bst (h 323) (rf_nat a) (rf_nat b) i114)) = (am_oi (rf_bst (h 323) (rf_nat a) (rf_nat b) (i114 + 1))) from rf_bst_n (fun z => z.2.elim (by omega) (by omega))]) ?_
                            exact ih114 (i114 + 1) (by omega) 
                          · skip
                            refine am_iload (pc := 172) C dX12_best_172 rfl ?_
                            refine am_istore (pc := 174) (ls' := [(0, .ref 322), (1, .int (nI (rf_nat a))), (2, .int (nI (rf_nat b))), (3, .int (nI ((2 ^ rf_kn (h 323) (rf_nat a)) - 1))), (4, .int (nI ((2 ^ rf_kn (h 323) (rf_nat b)) - 1))), (5, .int (nI (rf_li (h 323) (rf_nat b) i114))), (6, .int (nI i114)), (7, .int (nI (rf_li (h 323) (rf_nat b) i114)))]) C dX12_best_174 (by decide) rfl ?_
                            refine am_iincN (pc := 176) (ls' := [(0, .ref 322), (1, .int (nI (rf_nat a))), (2, .int (nI (rf_nat b))), (3, .int (nI ((2 ^ rf_kn (h 323) (rf_nat a)) - 1))), (4, .int (nI ((2 ^ rf_kn (h 323) (rf_nat b)) - 1))), (5, .int (nI (rf_li (h 323) (rf_nat b) i114))), (6, .int (nI (i114 + 1))), (7, .int (nI (rf_li (h 323) (rf_nat b) i114)))]) C dX12_best_176 rfl (am_up1 _) (by decide) rfl ?_
                            refine am_goto (pc := 179) (tgt := 114) C dX12_best_179 (by decide) ?_
                            refine am_sub (ls' := [(0, .ref 322), (1, .int (nI (rf_nat a))), (2, .int (nI (rf_nat b))), (3, .int (nI ((2 ^ rf_kn (h 323) (rf_nat a)) - 1))), (4, .int (nI ((2 ^ rf_kn (h 323) (rf_nat b)) - 1))), (5, .int (nI (rf_li (h 323) (rf_nat b) i114))), (6, .int (nI (i114 + 1)))]) (by intro q hq; simp only [List.mem_cons, List.not_mem_nil, or_false] at hq ⊢; rcases hq with rfl | rfl | rfl | rfl | rfl | rfl | rfl <;> simp) ?_
                            refine am_lsv (ls' := [(0, .ref 322), (1, .int (nI (rf_nat a))), (2, .int (nI (rf_nat b))), (3, .int (nI ((2 ^ rf_kn (h 323) (rf_nat a)) - 1))), (4, .int (nI ((2 ^ rf_kn (h 323) (rf_nat b)) - 1))), (5, .int (am_oi (rf_bst (h 323) (rf_nat a) (rf_nat b) (i114 + 1)))), (6, .int (nI (i114 + 1)))]) (by rw [show (nI (rf_li (h 323) (rf_nat b) i114)) = (am_oi (rf_bst (h 323) (rf_nat a) (rf_nat b) (i114 + 1))) from rf_bst_y ⟨q157, Or.inr (by omega)⟩]) ?_
                            exact ih114 (i114 + 1) (by omega) 
                refine am_sub (ls' := [(0, .ref 322), (1, .int (nI (rf_nat a))), (2, .int (nI (rf_nat b))), (3, .int (nI ((2 ^ rf_kn (h 323) (rf_nat a)) - 1))), (4, .int (nI ((2 ^ rf_kn (h 323) (rf_nat b)) - 1))), (5, .int (-1)), (6, .int (nI 0))]) (by intro q hq; simp only [List.mem_cons, List.not_mem_nil, or_false] at hq ⊢; rcases hq with rfl | rfl | rfl | rfl | rfl | rfl | rfl <;> simp) ?_
                refine am_lsv (ls' := [(0, .ref 322), (1, .int (nI (rf_nat a))), (2, .int (nI (rf_nat b))), (3, .int (nI ((2 ^ rf_kn (h 323) (rf_nat a)) - 1))), (4, .int (nI ((2 ^ rf_kn (h 323) (rf_nat b)) - 1))), (5, .int (am_oi (rf_bst (h 323) (rf_nat a) (rf_nat b) 0))), (6, .int (nI 0))]) (by rw [show (-1) = (am_oi (rf_bst (h 323) (rf_nat a) (rf_nat b) 0)) from am_oi_0.symm]) ?_
                exact L114 (rf_kn (h 323) (rf_nat b)) 0 (by omega) 
              · skip
                refine am_iconst (pc := 106) (v := -1) C dX12_best_106 rfl ?_
                have A9 : rf_a_best (h 323) a b = (-1) := (by rw [rf_a_best, q60, if_neg (of_decide_eq_false q103)]; rfl)
                exact am_iretij (G := (am_row (am_row h 331 (rf_dW (h 323) (h 332) (h 331) (rf_nat a) (rf_nat b))) 332 (rf_dF (h 323) (h 332) (rf_nat a) (rf_nat b)))) T dX12_best_107 rfl (Nat.le_refl _) (Nat.le_refl _) (by rw [K9]; exact A9.symm) rfl (by rw [K9]; exact rfl)
            · skip
              refine am_bipush (pc := 63) (v := -3) C dX12_best_63 (by decide) ?_
              have A9 : rf_a_best (h 323) a b = (-3) := (by rw [rf_a_best, q60]; rfl)
              exact am_iretij (G := (am_row (am_row h 331 (h 331)) 332 (h 332))) T dX12_best_65 rfl (Nat.le_refl _) (Nat.le_refl _) (by rw [K9]; exact A9.symm) rfl (by rw [K9]; exact rfl)
          · skip
            exact Bool.noConfusion q49
        · skip
          refine am_iconstN (pc := 40) (k := 1) C dX12_best_40 ?_
          refine am_goto (pc := 41) (tgt := 45) C dX12_best_41 (by decide) ?_
          refine am_top (show (nI 1) = (am_b true) from rfl) ?_
          refine am_iconstN (pc := 45) (k := 2) C dX12_best_45 ?_
          refine am_callVi (Y := mX12_throwsIf) (pc := 46) (st := []) (As := [.int (am_b true), .int (nI 2)]) (x := (am_b true)) (h2 := (am_row (am_row (am_row (am_row h 331 (h 331)) 332 (h 332)) 322 (upd (h 322) 0 (nI 0))) 322 (bif true then upd (upd (h 322) 0 (nI 0)) 0 (nI 2) else (upd (h 322) 0 (nI 0))))) C dX12_best_46 k12_269 v_X12_throwsIf rfl rfl bn_322 sh_322 ⟨by decide, rfl⟩ (by decide) (Nat.zero_le _) (Nat.zero_le _) (Nat.le_of_ble_eq_true rfl) (c_X12_throwsIf hR true (nI 2)) ?_
          refine am_hp (show (am_row (am_row (am_row (am_row h 331 (h 331)) 332 (h 332)) 322 (upd (h 322) 0 (nI 0))) 322 (bif true then upd (upd (h 322) 0 (nI 0)) 0 (nI 2) else (upd (h 322) 0 (nI 0)))) = (am_row (am_row (am_row h 331 (h 331)) 332 (h 332)) 322 (bif true then upd (upd (h 322) 0 (nI 0)) 0 (nI 2) else (upd (h 322) 0 (nI 0)))) from am_row_s0) ?_
          refine am_hp (show (am_row (am_row (am_row h 331 (h 331)) 332 (h 332)) 322 (bif true then upd (upd (h 322) 0 (nI 0)) 0 (nI 2) else (upd (h 322) 0 (nI 0)))) = (am_row (am_row (am_row h 331 (h 331)) 332 (h 332)) 322 (upd (upd (h 322) 0 (nI 0)) 0 (nI 2))) from rfl) ?_
          refine am_if_eqB (pc := 49) (tgt := 54) C dX12_best_49 (by decide) (fun q49 => ?_) (fun q49 => ?_)
          · skip
            exact Bool.noConfusion q49
          · skip
            refine am_iconstN (pc := 52) (k := 0) C dX12_best_52 ?_
            have K9 : rf_c_best (h 323) a b = 2 := (by unfold rf_c_best; exact ((rf_cb_f q11).trans ((rf_cb_f q19).trans (rf_cb_t (decide_eq_true q37)))))
            exact am_iretij (G := (am_row (am_row h 331 (h 331)) 332 (h 332))) T dX12_best_53 rfl (Nat.le_refl _) (Nat.le_refl _) (by rw [K9]; rfl) rfl (by rw [K9]; exact congrArg (am_row _ 322) rf_upd_upd)
    · skip
      refine am_iconstN (pc := 22) (k := 1) C dX12_best_22 ?_
      refine am_goto (pc := 23) (tgt := 27) C dX12_best_23 (by decide) ?_
      refine am_top (show (nI 1) = (am_b true) from rfl) ?_
      refine am_iconstN (pc := 27) (k := 1) C dX12_best_27 ?_
      refine am_callVi (Y := mX12_throwsIf) (pc := 28) (st := []) (As := [.int (am_b true), .int (nI 1)]) (x := (am_b true)) (h2 := (am_row (am_row (am_row (am_row h 331 (h 331)) 332 (h 332)) 322 (upd (h 322) 0 (nI 0))) 322 (bif true then upd (upd (h 322) 0 (nI 0)) 0 (nI 1) else (upd (h 322) 0 (nI 0))))) C dX12_best_28 k12_269 v_X12_throwsIf rfl rfl bn_322 sh_322 ⟨by decide, rfl⟩ (by decide) (Nat.zero_le _) (Nat.zero_le _) (Nat.le_of_ble_eq_true rfl) (c_X12_throwsIf hR true (nI 1)) ?_
      refine am_hp (show (am_row (am_row (am_row (am_row h 331 (h 331)) 332 (h 332)) 322 (upd (h 322) 0 (nI 0))) 322 (bif true then upd (upd (h 322) 0 (nI 0)) 0 (nI 1) else (upd (h 322) 0 (nI 0)))) = (am_row (am_row (am_row h 331 (h 331)) 332 (h 332)) 322 (bif true then upd (upd (h 322) 0 (nI 0)) 0 (nI 1) else (upd (h 322) 0 (nI 0)))) from am_row_s0) ?_
      refine am_hp (show (am_row (am_row (am_row h 331 (h 331)) 332 (h 332)) 322 (bif true then upd (upd (h 322) 0 (nI 0)) 0 (nI 1) else (upd (h 322) 0 (nI 0)))) = (am_row (am_row (am_row h 331 (h 331)) 332 (h 332)) 322 (upd (upd (h 322) 0 (nI 0)) 0 (nI 1))) from rfl) ?_
      refine am_if_neB (pc := 31) (tgt := 52) C dX12_best_31 (by decide) (fun q31 => ?_) (fun q31 => ?_)
      · skip
        refine am_iconstN (pc := 52) (k := 0) C dX12_best_52 ?_
        have K9 : rf_c_best (h 323) a b = 1 := (by unfold rf_c_best; exact ((rf_cb_f q11).trans (rf_cb_t q19)))
        exact am_iretij (G := (am_row (am_row h 331 (h 331)) 332 (h 332))) T dX12_best_53 rfl (Nat.le_refl _) (Nat.le_refl _) (by rw [K9]; rfl) rfl (by rw [K9]; exact congrArg (am_row _ 322) rf_upd_upd)
      · skip
        exact Bool.noConfusion q31

