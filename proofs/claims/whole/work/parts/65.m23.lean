/-! THE CLASS: draws, rows of the log, what lies in the field, who hits most, what is left -/
section M23
theorem rf_row_q {a : Int32} {n : Nat} (hn : n < 1073741824) (h1 : ¬ a < 0) (h2 : ¬ nI n ≤ a) : rf_nat a < n ∧ a = nI (rf_nat a) := by
  have h3 : 0 ≤ a.toInt := by
    have := Int32.not_lt.mp h1
    rw [Int32.le_iff_toInt_le] at this
    exact this
  have h4 : a.toInt < n := by
    have := Int32.not_le.mp h2
    rw [Int32.lt_iff_toInt_lt, nI_toInt (by omega)] at this
    exact this
  have e : a = nI a.toInt.toNat := by
    apply Int32.toInt_inj.mp
    rw [nI_toInt (by omega)]; omega
  have h5 : rf_nat a = a.toInt.toNat := by
    conv => lhs; rw [e]
    exact rf_nat_nI (by omega)
  rw [h5]
  exact ⟨by omega, e⟩
def rf_row (w : rf_W) (a : Int32) : Int32 := bif rf_okN a (rf_G w) then nI (cl_row w (rf_nat a)) else -1
theorem rf_row_ok {a : Int32} {n : Nat} (hn : n < 1073741824) (h1 : ¬ a < 0) (h2 : ¬ nI n ≤ a) : rf_okN a n = true := by
  obtain ⟨h3, h4⟩ := rf_row_q hn h1 h2
  exact (rf_okN_t hn).mpr ⟨_, h3, h4⟩
theorem rf_row_in {w : rf_W} {a : Int32} (h : rf_okN a (rf_G w) = true) : rf_row w a = nI (cl_row w (rf_nat a)) := by rw [rf_row, h]; rfl
theorem rf_row_nI {w : rf_W} {n : Nat} (hG : rf_G w < 1073741824) (h : n < rf_G w) : rf_row w (nI n) = nI (cl_row w n) := by
  rw [rf_row_in ((rf_okN_t hG).mpr ⟨n, h, rfl⟩), rf_nat_nI (by omega)]
theorem rf_row_no {w : rf_W} {a : Int32} (hG : rf_G w < 1073741824) (h : a < 0 ∨ nI (rf_G w) ≤ a) : rf_row w a = -1 := by
  rw [rf_row]
  cases e : rf_okN a (rf_G w) with
  | false => rfl
  | true =>
    obtain ⟨k, hk, rfl⟩ := (rf_okN_t hG).mp e
    rcases h with h | h
    · rw [show (0 : Int32) = nI 0 from rfl, nI_ltI (by omega) (by omega)] at h
      omega
    · rw [nI_leI (by omega) (by omega)] at h
      omega
/-- what is left of the usable when a set is forgotten -/
def cl_lf (w : rf_W) (u f : Int32) : Nat → Int32
  | 0 => u &&& (f ^^^ (-1))
  | m + 1 => if am_bt f m = true then cl_lf w u f m &&& (rf_rests w m ^^^ (-1)) else cl_lf w u f m
def cl_z (f : Nat → Int32) : Nat → Nat → Int32
  | 0 => f
  | i + 1 => upd (cl_z f i) i (nI 0)
theorem cl_z_at {f : Nat → Int32} : ∀ i k, cl_z f i k = if k < i then nI 0 else f k
  | 0, k => by rw [if_neg (by omega)]; rfl
  | i + 1, k => by
    rw [cl_z]
    by_cases e : k = i
    · subst e; rw [rf_upd_eq, if_pos (by omega)]
    · rw [rf_upd_ne e, cl_z_at i k]
      by_cases h : k < i
      · rw [if_pos h, if_pos (by omega)]
      · rw [if_neg h, if_neg (by omega)]
def cl_ht (w : rf_W) (f : Nat → Int32) (i : Nat) : Nat → Int32 := fun k => if k < 10 then nI (rf_cnt (fun a => decide (rf_log w (cl_row w a) 1 = nI k)) i) else f k
theorem cl_ht_at {w : rf_W} {f : Nat → Int32} {i k : Nat} (h : k < 10) : cl_ht w f i k = nI (rf_cnt (fun a => decide (rf_log w (cl_row w a) 1 = nI k)) i) := if_pos h
theorem cl_z_ht {w : rf_W} {f : Nat → Int32} : cl_z f 10 = cl_ht w f 0 := by
  funext k
  rw [cl_z_at]; rfl
theorem cl_ht_step {w : rf_W} (f : Nat → Int32) {i : Nat} (hb : rf_log w (cl_row w i) 1 = nI (rf_nat (rf_log w (cl_row w i) 1))) (h10 : rf_nat (rf_log w (cl_row w i) 1) < 10) : upd (cl_ht w f i) (rf_nat (rf_log w (cl_row w i) 1)) (nI (rf_cnt (fun a => decide (rf_log w (cl_row w a) 1 = nI (rf_nat (rf_log w (cl_row w i) 1)))) i + 1)) = cl_ht w f (i + 1) := by
  funext k
  by_cases e : k = rf_nat (rf_log w (cl_row w i) 1)
  · rw [e, rf_upd_eq, cl_ht_at h10]
    exact rf_cnt_t (decide_eq_true hb)
  · rw [rf_upd_ne e]
    by_cases h : k < 10
    · rw [cl_ht_at h, cl_ht_at h]
      refine rf_cnt_f (decide_eq_false (fun z => e ?_))
      rw [z, rf_nat_nI (by omega)]
    · show (if k < 10 then _ else _) = if k < 10 then _ else _
      rw [if_neg h, if_neg h]
theorem cl_row_lt {w : rf_W} (a : Nat) (h : a < rf_G w) (hG : rf_G w = min 60 (rf_nat (w 7))) : cl_row w a < rf_G w := by
  rw [cl_row]; omega
theorem cl_row_cl {w : rf_W} (a : Nat) (h : a < rf_G w) (hG : rf_G w = min 60 (rf_nat (w 7))) : cl_row w (cl_row w a) = a := by
  rw [cl_row, cl_row]; omega
theorem rf_cnt_inj {σ : Nat → Nat} {n : Nat} : ∀ m (p : Nat → Bool), (∀ a, a < m → σ a < n) → (∀ a b, a < m → b < m → σ a = σ b → a = b) → rf_cnt (fun a => p (σ a)) m ≤ rf_cnt p n
  | 0, p, _, _ => Nat.zero_le _
  | m + 1, p, h1, h2 => by
    rw [rf_cnt]
    by_cases hp : p (σ m) = true
    · rw [if_pos hp, ← rf_cnt_clear hp n (h1 m (by omega))]
      have ih := rf_cnt_inj m (fun j => p j && decide (j ≠ σ m)) (fun a ha => h1 a (by omega)) (fun a b ha hb => h2 a b (by omega) (by omega))
      have e : rf_cnt (fun a => p (σ a) && decide (σ a ≠ σ m)) m = rf_cnt (fun a => p (σ a)) m := rf_cnt_congr m (fun k hk => by
        rw [decide_eq_true (show σ k ≠ σ m from fun z => by have := h2 k m (by omega) (by omega) z; omega), Bool.and_true])
      rw [e] at ih
      omega
    · rw [if_neg hp]
      exact rf_cnt_inj m p (fun a ha => h1 a (by omega)) (fun a b ha hb => h2 a b (by omega) (by omega))
theorem rf_cnt_row {w : rf_W} (hG : rf_G w = min 60 (rf_nat (w 7))) (p : Nat → Bool) : rf_cnt (fun a => p (cl_row w a)) (rf_G w) = rf_cnt p (rf_G w) := by
  have hi : ∀ a b, a < rf_G w → b < rf_G w → cl_row w a = cl_row w b → a = b := fun a b ha hb e => by
    rw [← cl_row_cl a ha hG, ← cl_row_cl b hb hG, e]
  refine Nat.le_antisymm (rf_cnt_inj _ p (fun a ha => cl_row_lt a ha hG) hi) ?_
  have := rf_cnt_inj (rf_G w) (fun a => p (cl_row w a)) (fun a ha => cl_row_lt a ha hG) hi
  rw [rf_cnt_congr (q := p) (rf_G w) (fun k hk => by rw [cl_row_cl k hk hG])] at this
  exact this
theorem cl_ht_cnt {w : rf_W} {k : Nat} (hG : rf_G w = min 60 (rf_nat (w 7))) : rf_cnt (fun a => decide (rf_log w (cl_row w a) 1 = nI k)) (rf_G w) = rf_cnt (fun a => decide (rf_log w a 1 = nI k)) (rf_G w) := rf_cnt_row hG (fun a => decide (rf_log w a 1 = nI k))
theorem rf_cnt_0 {p : Nat → Bool} : ∀ n, (∀ k, k < n → p k = false) → rf_cnt p n = 0
  | 0, _ => rfl
  | n + 1, h => by rw [rf_cnt, rf_cnt_0 n (fun k hk => h k (by omega)), h n (by omega)]; rfl
theorem rf_hm_10 {w : rf_W} (hI : rf_I w) : rf_hm w 10 = rf_hm w (rf_S w) := by
  have hS : rf_S w < 11 := hI.1.2.1.2
  have key : ∀ d, rf_S w + d ≤ 10 → rf_hm w (rf_S w + d) = rf_hm w (rf_S w) := by
    intro d
    induction d with
    | zero => intro _; rfl
    | succ d ih =>
      intro h
      rw [← Nat.add_assoc, rf_hm_no, ih (by omega)]
      rw [rf_cnt_0 _ (fun k hk => decide_eq_false (fun z => ?_))]
      · omega
      · have := (hI.2.2.2.2.2.2.2 k hk).1.2
        rw [z, rf_nat_nI (by omega)] at this
        omega
  have := key (10 - rf_S w) (by omega)
  rw [show rf_S w + (10 - rf_S w) = 10 by omega] at this
  exact this
end M23

set_option maxHeartbeats 400000 in
set_option maxRecDepth 100000 in
theorem c_X5_draw {ad : Nat → Nat} {r : am_R} (hR : am_rs r) {h : am_H}  (w : rf_W) (hV : rf_I w) (hSc : cl_Sc (h) 25 w)  : am_CM mX5_draw 0 0 0 [.ref 25] (am_VV ad) r h (am_po (some (.int (nI (rf_dr w)))) r (am_row h 25 (upd (h 25) 1 (rf_seed1 w)))) := by
  refine am_CM.of (by decide +kernel) (Nat.le_of_ble_eq_true rfl) (fun X C T => ?_)
  show am_G X (am_VV ad) (0, 0) 0 [(0, .ref 25)] [] r h
  have hM9 : rf_M w < 17 := hV.1.1.2
  have hS9 : rf_S w < 11 := hV.1.2.1.2
  have hO9 : rf_O w < 11 := hV.1.2.2.2
  refine am_aload_n (pc := 0) C dX5_draw_0 rfl ?_
  refine am_ldci (pc := 1) (v := 1103515245) C dX5_draw_1 (am_mem 1333 (by decide +kernel) rfl) ?_
  refine am_aload_n (pc := 3) C dX5_draw_3 rfl ?_
  refine am_getI (pc := 4) C dX5_draw_4 f5_9 bn_25 sh_25 ?_
  refine am_top (show ((h 25) 1) = (w 10) from hSc.1.2.1) ?_
  refine am_imul (pc := 7) C dX5_draw_7 ?_
  refine am_sipush (pc := 8) (v := nI 12345) C dX5_draw_8 (by decide) ?_
  refine am_iadd (pc := 11) C dX5_draw_11 ?_
  refine am_putI (pc := 12) C dX5_draw_12 f5_9 bn_25 sh_25 rfl rfl ?_
  refine am_hp (show am_up h 25 1 ((1103515245 * (w 10)) + (nI 12345)) = am_row h 25 (upd (h 25) 1 ((1103515245 * (w 10)) + (nI 12345))) from am_up_rw _ _ _ _) ?_
  refine am_aload_n (pc := 15) C dX5_draw_15 rfl ?_
  refine am_getI (pc := 16) C dX5_draw_16 f5_9 bn_25 sh_25 ?_
  refine am_top (show ((upd (h 25) 1 ((1103515245 * (w 10)) + (nI 12345))) 1) = (rf_seed1 w) from rf_upd_eq) ?_
  refine am_bipush (pc := 19) (v := nI 16) C dX5_draw_19 (by decide) ?_
  refine am_ishr (pc := 21) C dX5_draw_21 ?_
  refine am_sipush (pc := 22) (v := nI 32767) C dX5_draw_22 (by decide) ?_
  refine am_iand (pc := 25) C dX5_draw_25 ?_
  refine am_top (show (((rf_seed1 w) >>> ((nI 16) &&& 31)) &&& (nI 32767)) = (nI (rf_dr w)) from (rf_dr_n w).1) ?_
  exact am_ireti T dX5_draw_26 rfl (Nat.le_refl _) (Nat.le_refl _) rfl rfl rfl

set_option maxHeartbeats 400000 in
set_option maxRecDepth 100000 in
theorem c_X5_timesInField {ad : Nat → Nat} {r : am_R} (hR : am_rs r) {h : am_H} (m : Int32) (w : rf_W) (hV : rf_I w) (hSc : cl_Sc (h) 25 w)  : am_CM mX5_timesInField 1 0 0 [.ref 25, .int m] (am_VV ad) r h (am_po (some (.int (nI (rf_inField w m)))) r h) := by
  refine am_CM.of (by decide +kernel) (Nat.le_of_ble_eq_true rfl) (fun X C T => ?_)
  show am_G X (am_VV ad) (0, 0) 0 [(0, .ref 25), (1, .int m)] [] r h
  have hM9 : rf_M w < 17 := hV.1.1.2
  have hS9 : rf_S w < 11 := hV.1.2.1.2
  have hO9 : rf_O w < 11 := hV.1.2.2.2
  have hF9 : rf_F w < 41 := hV.2.2.2.2.1.2.2.1.2
  refine am_iconstN (pc := 0) (k := 0) C dX5_timesInField_0 ?_
  refine am_istore_n (pc := 1) (ls' := [(0, .ref 25), (1, .int m), (2, .int (nI 0))]) C dX5_timesInField_1 (by decide) rfl ?_
  refine am_iconstN (pc := 2) (k := 0) C dX5_timesInField_2 ?_
  refine am_istore_n (pc := 3) (ls' := [(0, .ref 25), (1, .int m), (2, .int (nI 0)), (3, .int (nI 0))]) C dX5_timesInField_3 (by decide) rfl ?_
  have L4 : ∀ (j4 i4 : Nat), i4 + j4 = rf_F w → am_G X (am_VV ad) (0, 0) 4 [(0, .ref 25), (1, .int m), (2, .int (nI (rf_cnt (fun k => decide (rf_fld w k 0 = m)) i4))), (3, .int (nI i4))] [] r h := by
    intro j4
    induction j4 with
    | zero =>
      intro i4 hi4 
      obtain rfl : i4 = rf_F w := by omega
      refine am_iload_n (pc := 4) C dX5_timesInField_4 rfl ?_
      refine am_aload_n (pc := 5) C dX5_timesInField_5 rfl ?_
      refine am_getI (pc := 6) C dX5_timesInField_6 f5_67 bn_25 sh_25 ?_
      refine am_top (show ((h 25) 4) = (nI (rf_F w)) from (hSc.1.2.2.2.2.trans hV.2.2.2.2.1.2.2.1.1)) ?_
      refine am_icmp_geN (pc := 9) (tgt := 39) C dX5_timesInField_9 (by decide) (by omega) (by omega) (fun q9 => ?_) (fun q9 => ?_)
      · skip
        refine am_iload_n (pc := 39) C dX5_timesInField_39 rfl ?_
        exact am_ireti T dX5_timesInField_40 rfl (Nat.le_refl _) (Nat.le_refl _) rfl rfl rfl
      · skip
        exact absurd q9 (by omega)
    | succ j4 ih4 =>
      intro i4 hi4 
      have hl4 : i4 < rf_F w := by omega
      have hf40 : i4 < 40 := by omega
      refine am_iload_n (pc := 4) C dX5_timesInField_4 rfl ?_
      refine am_aload_n (pc := 5) C dX5_timesInField_5 rfl ?_
      refine am_getI (pc := 6) C dX5_timesInField_6 f5_67 bn_25 sh_25 ?_
      refine am_top (show ((h 25) 4) = (nI (rf_F w)) from (hSc.1.2.2.2.2.trans hV.2.2.2.2.1.2.2.1.1)) ?_
      refine am_icmp_geN (pc := 9) (tgt := 39) C dX5_timesInField_9 (by decide) (by omega) (by omega) (fun q9 => ?_) (fun q9 => ?_)
      · skip
        exact absurd q9 (by omega)
      · skip
        refine am_iload_n (pc := 12) C dX5_timesInField_12 rfl ?_
        refine am_bipush (pc := 13) (v := nI 40) C dX5_timesInField_13 (by decide) ?_
        refine am_icmp_geN (pc := 15) (tgt := 39) C dX5_timesInField_15 (by decide) (by omega) (by omega) (fun q15 => ?_) (fun q15 => ?_)
        · skip
          exact absurd q15 (by omega)
        · skip
          refine am_aload_n (pc := 18) C dX5_timesInField_18 rfl ?_
          refine am_getR (pc := 19) (j := 32) C dX5_timesInField_19 f5_34 bn_25 sh_25 (rf_25_11 hR) ?_
          refine am_iload_n (pc := 22) C dX5_timesInField_22 rfl ?_
          refine am_callSNi (Y := mX11_pick) (pc := 23) (st := []) (As := [.ref 32, .int (nI i4)]) (x := ((h 32) i4)) (h2 := h) C dX5_timesInField_23 k5_75 v_X11_pick rfl rfl (by decide) (Nat.zero_le _) (Nat.zero_le _) (Nat.le_of_ble_eq_true rfl) (c_X11_pick 32 i4 40 bn_32 sh_32 (show i4 < 40 from by omega) (by decide)) ?_
          refine am_top (show ((h 32) i4) = (rf_fld w i4 0) from (hSc.2.2.1 i4 (by omega)).1) ?_
          refine am_iload_n (pc := 26) C dX5_timesInField_26 rfl ?_
          refine am_icmp_ne (pc := 27) (tgt := 33) C dX5_timesInField_27 (by decide) (fun q25 => ?_) (fun q25 => ?_)
          · skip
            refine am_iincN (pc := 33) (ls' := [(0, .ref 25), (1, .int m), (2, .int (nI (rf_cnt (fun k => decide (rf_fld w k 0 = m)) i4))), (3, .int (nI (i4 + 1)))]) C dX5_timesInField_33 rfl (am_up1 _) (by decide) rfl ?_
            refine am_goto (pc := 36) (tgt := 4) C dX5_timesInField_36 (by decide) ?_
            refine am_lsv (ls' := [(0, .ref 25), (1, .int m), (2, .int (nI (rf_cnt (fun k => decide (rf_fld w k 0 = m)) (i4 + 1)))), (3, .int (nI (i4 + 1)))]) (by rw [show (nI (rf_cnt (fun k => decide (rf_fld w k 0 = m)) i4)) = (nI (rf_cnt (fun k => decide (rf_fld w k 0 = m)) (i4 + 1))) from rf_cnt_f (decide_eq_false q25)]) ?_
            exact ih4 (i4 + 1) (by omega) 
          · skip
            refine am_iincN (pc := 30) (ls' := [(0, .ref 25), (1, .int m), (2, .int (nI (rf_cnt (fun k => decide (rf_fld w k 0 = m)) i4 + 1))), (3, .int (nI i4))]) C dX5_timesInField_30 rfl (am_up1 _) (by decide) rfl ?_
            refine am_iincN (pc := 33) (ls' := [(0, .ref 25), (1, .int m), (2, .int (nI (rf_cnt (fun k => decide (rf_fld w k 0 = m)) i4 + 1))), (3, .int (nI (i4 + 1)))]) C dX5_timesInField_33 rfl (am_up1 _) (by decide) rfl ?_
            refine am_goto (pc := 36) (tgt := 4) C dX5_timesInField_36 (by decide) ?_
            refine am_lsv (ls' := [(0, .ref 25), (1, .int m), (2, .int (nI (rf_cnt (fun k => decide (rf_fld w k 0 = m)) (i4 + 1)))), (3, .int (nI (i4 + 1)))]) (by rw [show (nI (rf_cnt (fun k => decide (rf_fld w k 0 = m)) i4 + 1)) = (nI (rf_cnt (fun k => decide (rf_fld w k 0 = m)) (i4 + 1))) from rf_cnt_t (decide_eq_true q25)]) ?_
            exact ih4 (i4 + 1) (by omega) 
  exact L4 (rf_F w) 0 (by omega) 

set_option maxHeartbeats 400000 in
set_option maxRecDepth 100000 in
theorem c_X5_rowCount {ad : Nat → Nat} {r : am_R} (hR : am_rs r) {h : am_H}  (w : rf_W) (hV : rf_I w) (hSc : cl_Sc (h) 25 w) (hB : rf_n (w 7) 2147483647)  : am_CM mX5_rowCount 1 0 0 [.ref 25] (am_VV ad) r h (am_po (some (.int (nI (rf_G w)))) r h) := by
  refine am_CM.of (by decide +kernel) (Nat.le_of_ble_eq_true rfl) (fun X C T => ?_)
  show am_G X (am_VV ad) (0, 0) 0 [(0, .ref 25)] [] r h
  have hM9 : rf_M w < 17 := hV.1.1.2
  have hS9 : rf_S w < 11 := hV.1.2.1.2
  have hO9 : rf_O w < 11 := hV.1.2.2.2
  have hB9 : rf_nat (w 7) < 2147483647 := hB.2
  refine am_aload_n (pc := 0) C dX5_rowCount_0 rfl ?_
  refine am_getI (pc := 1) C dX5_rowCount_1 f5_61 bn_25 sh_25 ?_
  refine am_top (show ((h 25) 2) = (w 7) from hSc.1.2.2.1) ?_
  refine am_top (show (w 7) = (nI (rf_nat (w 7))) from hB.1) ?_
  refine am_bipush (pc := 4) (v := nI 60) C dX5_rowCount_4 (by decide) ?_
  refine am_callSi (Y := mJ9_min_7cf53) (pc := 6) (st := []) (As := [.int (nI (rf_nat (w 7))), .int (nI 60)]) (x := (rf_min (nI (rf_nat (w 7))) (nI 60))) (h2 := h) C dX5_rowCount_6 k5_93 v_J9_min_7cf53 rfl rfl (by decide) (Nat.zero_le _) (Nat.zero_le _) (Nat.le_of_ble_eq_true rfl) (c_J9_min_7cf53 hR (nI (rf_nat (w 7))) (nI 60)) ?_
  exact am_ireti T dX5_rowCount_9 rfl (Nat.le_refl _) (Nat.le_refl _) (by first | exact congrArg nI (by rw [hSc.2.2.2.1, Nat.min_comm]) | exact (rf_min_N (by omega) (by omega)).trans (congrArg nI (by rw [hSc.2.2.2.1, Nat.min_comm]))) rfl rfl

set_option maxHeartbeats 400000 in
set_option maxRecDepth 100000 in
theorem c_X5_rowAgo {ad : Nat → Nat} {r : am_R} (hR : am_rs r) {h : am_H} (a : Int32) (w : rf_W) (hV : rf_I w) (hSc : cl_Sc (h) 25 w) (hB : rf_n (w 7) 2147483647)  : am_CM mX5_rowAgo 2 0 0 [.ref 25, .int a] (am_VV ad) r h (am_po (some (.int (rf_row w a))) r h) := by
  refine am_CM.of (by decide +kernel) (Nat.le_of_ble_eq_true rfl) (fun X C T => ?_)
  show am_G X (am_VV ad) (0, 0) 0 [(0, .ref 25), (1, .int a)] [] r h
  have hM9 : rf_M w < 17 := hV.1.1.2
  have hS9 : rf_S w < 11 := hV.1.2.1.2
  have hO9 : rf_O w < 11 := hV.1.2.2.2
  have hB9 : rf_nat (w 7) < 2147483647 := hB.2
  have hG9 : rf_G w = min 60 (rf_nat (w 7)) := hSc.2.2.2.1
  have hG6 : rf_G w ≤ 60 := by omega
  have hG7 : rf_G w ≤ rf_nat (w 7) := by omega
  refine am_iload_n (pc := 0) C dX5_rowAgo_0 rfl ?_
  refine am_if_lt (pc := 1) (tgt := 26) C dX5_rowAgo_1 (by decide) (fun q1 => ?_) (fun q1 => ?_)
  · skip
    refine am_iconst (pc := 26) (v := -1) C dX5_rowAgo_26 rfl ?_
    exact am_ireti T dX5_rowAgo_27 rfl (Nat.le_refl _) (Nat.le_refl _) (rf_row_no (by omega) (Or.inl q1)).symm rfl rfl
  · skip
    refine am_iload_n (pc := 4) C dX5_rowAgo_4 rfl ?_
    refine am_aload_n (pc := 5) C dX5_rowAgo_5 rfl ?_
    refine am_callVi (Y := mX5_rowCount) (pc := 6) (st := [.int a]) (As := []) (x := (nI (rf_G w))) (h2 := h) C dX5_rowAgo_6 k5_99 v_X5_rowCount rfl rfl bn_25 sh_25 ⟨by decide, rfl⟩ (by decide) (Nat.zero_le _) (Nat.zero_le _) (Nat.le_of_ble_eq_true rfl) (c_X5_rowCount hR w hV hSc (show rf_n (w 7) 2147483647 from hB)) ?_
    refine am_icmp_ge (pc := 9) (tgt := 26) C dX5_rowAgo_9 (by decide) (fun q9 => ?_) (fun q9 => ?_)
    · skip
      refine am_iconst (pc := 26) (v := -1) C dX5_rowAgo_26 rfl ?_
      exact am_ireti T dX5_rowAgo_27 rfl (Nat.le_refl _) (Nat.le_refl _) (rf_row_no (by omega) (Or.inr q9)).symm rfl rfl
    · skip
      obtain ⟨ha9, hae⟩ := rf_row_q (a := a) (n := rf_G w) (by omega) q1 q9
      refine am_lsv (ls' := [(0, .ref 25), (1, .int (nI (rf_nat a)))]) (congrArg (fun z9 : Int32 => ([(0, .ref 25), (1, Value.int z9)] : List (Nat × Value))) (show a = (nI (rf_nat a)) from hae)) ?_
      refine am_aload_n (pc := 12) C dX5_rowAgo_12 rfl ?_
      refine am_getI (pc := 13) C dX5_rowAgo_13 f5_61 bn_25 sh_25 ?_
      refine am_top (show ((h 25) 2) = (w 7) from hSc.1.2.2.1) ?_
      refine am_top (show (w 7) = (nI (rf_nat (w 7))) from hB.1) ?_
      refine am_iconstN (pc := 16) (k := 1) C dX5_rowAgo_16 ?_
      refine am_isubN (pc := 17) C dX5_rowAgo_17 (by omega) ?_
      refine am_iload_n (pc := 18) C dX5_rowAgo_18 rfl ?_
      refine am_isubN (pc := 19) C dX5_rowAgo_19 (by omega) ?_
      refine am_bipush (pc := 20) (v := nI 60) C dX5_rowAgo_20 (by decide) ?_
      refine am_iremN (pc := 22) C dX5_rowAgo_22 (by omega) (by omega) (by omega) ?_
      refine am_goto (pc := 23) (tgt := 27) C dX5_rowAgo_23 (by decide) ?_
      exact am_ireti T dX5_rowAgo_27 rfl (Nat.le_refl _) (Nat.le_refl _) (rf_row_in (rf_row_ok (by omega) q1 q9)).symm rfl rfl

set_option maxHeartbeats 400000 in
set_option maxRecDepth 100000 in
theorem c_X5_agoLost {ad : Nat → Nat} {r : am_R} (hR : am_rs r) {h : am_H} (s : Nat) (m : Nat) (w : rf_W) (hV : rf_I w) (hSc : cl_Sc (h) 25 w) (hB : rf_n (w 7) 2147483647) (hs : s < 11) (hm : m < 17)  : am_CM mX5_agoLost 3 0 0 [.ref 25, .int (nI s), .int (nI m)] (am_VV ad) r h (am_po (some (.int (rf_sea (fun n => decide (rf_log w n 2 = nI s) && decide (rf_log w n 3 = nI m)) (fun n => nI n) (rf_G w) 0))) r h) := by
  refine am_CM.of (by decide +kernel) (Nat.le_of_ble_eq_true rfl) (fun X C T => ?_)
  show am_G X (am_VV ad) (0, 0) 0 [(0, .ref 25), (1, .int (nI s)), (2, .int (nI m))] [] r h
  have hM9 : rf_M w < 17 := hV.1.1.2
  have hS9 : rf_S w < 11 := hV.1.2.1.2
  have hO9 : rf_O w < 11 := hV.1.2.2.2
  have hB9 : rf_nat (w 7) < 2147483647 := hB.2
  have hG9 : rf_G w = min 60 (rf_nat (w 7)) := hSc.2.2.2.1
  have hG6 : rf_G w ≤ 60 := by omega
  have hG7 : rf_G w ≤ rf_nat (w 7) := by omega
  refine am_aload_n (pc := 0) C dX5_agoLost_0 rfl ?_
  refine am_callVi (Y := mX5_rowCount) (pc := 1) (st := []) (As := []) (x := (nI (rf_G w))) (h2 := h) C dX5_agoLost_1 k5_99 v_X5_rowCount rfl rfl bn_25 sh_25 ⟨by decide, rfl⟩ (by decide) (Nat.zero_le _) (Nat.zero_le _) (Nat.le_of_ble_eq_true rfl) (c_X5_rowCount hR w hV hSc (show rf_n (w 7) 2147483647 from hB)) ?_
  refine am_istore_n (pc := 4) (ls' := [(0, .ref 25), (1, .int (nI s)), (2, .int (nI m)), (3, .int (nI (rf_G w)))]) C dX5_agoLost_4 (by decide) rfl ?_
  refine am_iconstN (pc := 5) (k := 0) C dX5_agoLost_5 ?_
  refine am_istore (pc := 6) (ls' := [(0, .ref 25), (1, .int (nI s)), (2, .int (nI m)), (3, .int (nI (rf_G w))), (4, .int (nI 0))]) C dX5_agoLost_6 (by decide) rfl ?_
  have L8 : ∀ (j8 : Nat) (n : Nat), (hnj : n + j8 = rf_G w) → (hms : rf_sea (fun n => decide (rf_log w n 2 = nI s) && decide (rf_log w n 3 = nI m)) (fun n => nI n) j8 n = rf_sea (fun n => decide (rf_log w n 2 = nI s) && decide (rf_log w n 3 = nI m)) (fun n => nI n) (rf_G w) 0) → am_G X (am_VV ad) (0, 0) 8 [(0, .ref 25), (1, .int (nI s)), (2, .int (nI m)), (3, .int (nI (rf_G w))), (4, .int (nI n))] [] r h := by
    intro j8
    induction j8 with
    | zero =>
      intro n hnj hms
      refine am_iload (pc := 8) C dX5_agoLost_8 rfl ?_
      refine am_iload_n (pc := 10) C dX5_agoLost_10 rfl ?_
      refine am_icmp_geN (pc := 11) (tgt := 57) C dX5_agoLost_11 (by decide) (by omega) (by omega) (fun q11 => ?_) (fun q11 => ?_)
      · skip
        refine am_iconst (pc := 57) (v := -1) C dX5_agoLost_57 rfl ?_
        exact am_ireti T dX5_agoLost_58 rfl (Nat.le_refl _) (Nat.le_refl _) (by rw [← hms]; rfl) rfl rfl
      · skip
        exact absurd q11 (by omega)
    | succ j8 ih8 =>
      intro n hnj hms
      have hn9 : n < rf_G w := by omega
      have hn60 : cl_row w n < 60 := Nat.mod_lt _ (by omega)
      have hrw := hSc.2.2.2.2 n hn9
      skip
      refine am_iload (pc := 8) C dX5_agoLost_8 rfl ?_
      refine am_iload_n (pc := 10) C dX5_agoLost_10 rfl ?_
      refine am_icmp_geN (pc := 11) (tgt := 57) C dX5_agoLost_11 (by decide) (by omega) (by omega) (fun q11 => ?_) (fun q11 => ?_)
      · skip
        exact absurd q11 (by omega)
      · skip
        refine am_aload_n (pc := 14) C dX5_agoLost_14 rfl ?_
        refine am_iload (pc := 15) C dX5_agoLost_15 rfl ?_
        refine am_callVi (Y := mX5_rowAgo) (pc := 17) (st := []) (As := [.int (nI n)]) (x := (rf_row w (nI n))) (h2 := h) C dX5_agoLost_17 k5_103 v_X5_rowAgo rfl rfl bn_25 sh_25 ⟨by decide, rfl⟩ (by decide) (Nat.zero_le _) (Nat.zero_le _) (Nat.le_of_ble_eq_true rfl) (c_X5_rowAgo hR (nI n) w hV hSc (show rf_n (w 7) 2147483647 from hB)) ?_
        refine am_top (show (rf_row w (nI n)) = (nI (cl_row w n)) from (rf_row_nI (by omega) hn9)) ?_
        refine am_istore (pc := 20) (ls' := [(0, .ref 25), (1, .int (nI s)), (2, .int (nI m)), (3, .int (nI (rf_G w))), (4, .int (nI n)), (5, .int (nI (cl_row w n)))]) C dX5_agoLost_20 (by decide) rfl ?_
        refine am_aload_n (pc := 22) C dX5_agoLost_22 rfl ?_
        refine am_getR (pc := 23) (j := 37) C dX5_agoLost_23 f5_49 bn_25 sh_25 (rf_25_16 hR) ?_
        refine am_iload (pc := 26) C dX5_agoLost_26 rfl ?_
        refine am_callSNi (Y := mX11_pick) (pc := 28) (st := []) (As := [.ref 37, .int (nI (cl_row w n))]) (x := ((h 37) (cl_row w n))) (h2 := h) C dX5_agoLost_28 k5_75 v_X11_pick rfl rfl (by decide) (Nat.zero_le _) (Nat.zero_le _) (Nat.le_of_ble_eq_true rfl) (c_X11_pick 37 (cl_row w n) 60 bn_37 sh_37 (show cl_row w n < 60 from by omega) (by decide)) ?_
        refine am_top (show ((h 37) (cl_row w n)) = (rf_log w n 2) from hrw.2.2.1) ?_
        refine am_iload_n (pc := 31) C dX5_agoLost_31 rfl ?_
        refine am_icmp_ne (pc := 32) (tgt := 51) C dX5_agoLost_32 (by decide) (fun q32 => ?_) (fun q32 => ?_)
        · skip
          refine am_iincN (pc := 51) (ls' := [(0, .ref 25), (1, .int (nI s)), (2, .int (nI m)), (3, .int (nI (rf_G w))), (4, .int (nI (n + 1))), (5, .int (nI (cl_row w n)))]) C dX5_agoLost_51 rfl (am_up1 _) (by decide) rfl ?_
          refine am_goto (pc := 54) (tgt := 8) C dX5_agoLost_54 (by decide) ?_
          refine am_sub (ls' := [(0, .ref 25), (1, .int (nI s)), (2, .int (nI m)), (3, .int (nI (rf_G w))), (4, .int (nI (n + 1)))]) (by intro q hq; simp only [List.mem_cons, List.not_mem_nil, or_false] at hq ⊢; rcases hq with rfl | rfl | rfl | rfl | rfl <;> simp) ?_
          exact ih8 (n + 1) (by omega) (Eq.trans (Eq.symm (rf_sea_f (show (decide _ && decide _) = false by rw [decide_eq_false q32]; rfl))) hms)
        · skip
          refine am_aload_n (pc := 35) C dX5_agoLost_35 rfl ?_
          refine am_getR (pc := 36) (j := 38) C dX5_agoLost_36 f5_52 bn_25 sh_25 (rf_25_17 hR) ?_
          refine am_iload (pc := 39) C dX5_agoLost_39 rfl ?_
          refine am_callSNi (Y := mX11_pick) (pc := 41) (st := []) (As := [.ref 38, .int (nI (cl_row w n))]) (x := ((h 38) (cl_row w n))) (h2 := h) C dX5_agoLost_41 k5_75 v_X11_pick rfl rfl (by decide) (Nat.zero_le _) (Nat.zero_le _) (Nat.le_of_ble_eq_true rfl) (c_X11_pick 38 (cl_row w n) 60 bn_38 sh_38 (show cl_row w n < 60 from by omega) (by decide)) ?_
          refine am_top (show ((h 38) (cl_row w n)) = (rf_log w n 3) from hrw.2.2.2.1) ?_
          refine am_iload_n (pc := 44) C dX5_agoLost_44 rfl ?_
          refine am_icmp_ne (pc := 45) (tgt := 51) C dX5_agoLost_45 (by decide) (fun q45 => ?_) (fun q45 => ?_)
          · skip
            refine am_iincN (pc := 51) (ls' := [(0, .ref 25), (1, .int (nI s)), (2, .int (nI m)), (3, .int (nI (rf_G w))), (4, .int (nI (n + 1))), (5, .int (nI (cl_row w n)))]) C dX5_agoLost_51 rfl (am_up1 _) (by decide) rfl ?_
            refine am_goto (pc := 54) (tgt := 8) C dX5_agoLost_54 (by decide) ?_
            refine am_sub (ls' := [(0, .ref 25), (1, .int (nI s)), (2, .int (nI m)), (3, .int (nI (rf_G w))), (4, .int (nI (n + 1)))]) (by intro q hq; simp only [List.mem_cons, List.not_mem_nil, or_false] at hq ⊢; rcases hq with rfl | rfl | rfl | rfl | rfl <;> simp) ?_
            exact ih8 (n + 1) (by omega) (Eq.trans (Eq.symm (rf_sea_f (show (decide _ && decide _) = false by rw [decide_eq_false q45, Bool.and_false]))) hms)
          · skip
            refine am_iload (pc := 48) C dX5_agoLost_48 rfl ?_
            exact am_ireti T dX5_agoLost_50 rfl (Nat.le_refl _) (Nat.le_refl _) (Eq.trans (Eq.symm hms) (rf_sea_t (show (decide _ && decide _) = true by rw [decide_eq_true q32, decide_eq_true q45]; rfl))).symm rfl rfl
  exact L8 (rf_G w) 0 (by omega) rfl

set_option maxHeartbeats 400000 in
set_option maxRecDepth 100000 in
theorem c_X6_leftOf {ad : Nat → Nat} {r : am_R} (hR : am_rs r) {h : am_H} (u : Int32) (f : Int32) (w : rf_W) (hV : rf_I w) (hLo : cl_Lo (h) 4 w) (hSc : cl_Sc (h) 25 w)  : am_CM mX6_leftOf 1 0 0 [.ref 314, .int u, .int f] (am_VV ad) r h (am_po (some (.int (cl_lf w u f (rf_M w)))) r h) := by
  refine am_CM.of (by decide +kernel) (Nat.le_of_ble_eq_true rfl) (fun X C T => ?_)
  show am_G X (am_VV ad) (0, 0) 0 [(0, .ref 314), (1, .int u), (2, .int f)] [] r h
  have hM9 : rf_M w < 17 := hV.1.1.2
  have hS9 : rf_S w < 11 := hV.1.2.1.2
  have hO9 : rf_O w < 11 := hV.1.2.2.2
  refine am_iload_n (pc := 0) C dX6_leftOf_0 rfl ?_
  refine am_iload_n (pc := 1) C dX6_leftOf_1 rfl ?_
  refine am_iconst (pc := 2) (v := -1) C dX6_leftOf_2 rfl ?_
  refine am_ixor (pc := 3) C dX6_leftOf_3 ?_
  refine am_iand (pc := 4) C dX6_leftOf_4 ?_
  refine am_istore_n (pc := 5) (ls' := [(0, .ref 314), (1, .int u), (2, .int f), (3, .int (u &&& (f ^^^ (-1))))]) C dX6_leftOf_5 (by decide) rfl ?_
  refine am_iconstN (pc := 6) (k := 0) C dX6_leftOf_6 ?_
  refine am_istore (pc := 7) (ls' := [(0, .ref 314), (1, .int u), (2, .int f), (3, .int (u &&& (f ^^^ (-1)))), (4, .int (nI 0))]) C dX6_leftOf_7 (by decide) rfl ?_
  have L9 : ∀ (j9 i9 : Nat), i9 + j9 = rf_M w → am_G X (am_VV ad) (0, 0) 9 [(0, .ref 314), (1, .int u), (2, .int f), (3, .int (cl_lf w u f i9)), (4, .int (nI i9))] [] r h := by
    intro j9
    induction j9 with
    | zero =>
      intro i9 hi9 
      obtain rfl : i9 = rf_M w := by omega
      refine am_iload (pc := 9) C dX6_leftOf_9 rfl ?_
      refine am_aload_n (pc := 11) C dX6_leftOf_11 rfl ?_
      refine am_getR (pc := 12) (j := 4) C dX6_leftOf_12 f6_21 bn_314 sh_314 (rf_314_1 hR) ?_
      refine am_getI (pc := 15) C dX6_leftOf_15 f6_67 bn_4 sh_4 ?_
      refine am_top (show ((h 4) 1) = (nI (rf_M w)) from (hLo.1.2.1.trans hV.1.1.1)) ?_
      refine am_icmp_geN (pc := 18) (tgt := 53) C dX6_leftOf_18 (by decide) (by omega) (by omega) (fun q18 => ?_) (fun q18 => ?_)
      · skip
        refine am_iload_n (pc := 53) C dX6_leftOf_53 rfl ?_
        exact am_ireti T dX6_leftOf_54 rfl (Nat.le_refl _) (Nat.le_refl _) rfl rfl rfl
      · skip
        exact absurd q18 (by omega)
    | succ j9 ih9 =>
      intro i9 hi9 
      have hl9 : i9 < rf_M w := by omega
      refine am_iload (pc := 9) C dX6_leftOf_9 rfl ?_
      refine am_aload_n (pc := 11) C dX6_leftOf_11 rfl ?_
      refine am_getR (pc := 12) (j := 4) C dX6_leftOf_12 f6_21 bn_314 sh_314 (rf_314_1 hR) ?_
      refine am_getI (pc := 15) C dX6_leftOf_15 f6_67 bn_4 sh_4 ?_
      refine am_top (show ((h 4) 1) = (nI (rf_M w)) from (hLo.1.2.1.trans hV.1.1.1)) ?_
      refine am_icmp_geN (pc := 18) (tgt := 53) C dX6_leftOf_18 (by decide) (by omega) (by omega) (fun q18 => ?_) (fun q18 => ?_)
      · skip
        exact absurd q18 (by omega)
      · skip
        refine am_iload_n (pc := 21) C dX6_leftOf_21 rfl ?_
        refine am_iload (pc := 22) C dX6_leftOf_22 rfl ?_
        refine am_callSNi (Y := mX11_has) (pc := 24) (st := []) (As := [.int f, .int (nI i9)]) (x := (am_b (am_bt f i9))) (h2 := h) C dX6_leftOf_24 k6_53 v_X11_has rfl rfl (by decide) (Nat.zero_le _) (Nat.zero_le _) (Nat.le_of_ble_eq_true rfl) (c_X11_has f i9 (show i9 < 32 from by omega)) ?_
        refine am_if_eqB (pc := 27) (tgt := 47) C dX6_leftOf_27 (by decide) (fun q27 => ?_) (fun q27 => ?_)
        · skip
          refine am_iincN (pc := 47) (ls' := [(0, .ref 314), (1, .int u), (2, .int f), (3, .int (cl_lf w u f i9)), (4, .int (nI (i9 + 1)))]) C dX6_leftOf_47 rfl (am_up1 _) (by decide) rfl ?_
          refine am_goto (pc := 50) (tgt := 9) C dX6_leftOf_50 (by decide) ?_
          refine am_lsv (ls' := [(0, .ref 314), (1, .int u), (2, .int f), (3, .int (cl_lf w u f (i9 + 1))), (4, .int (nI (i9 + 1)))]) (by rw [show (cl_lf w u f i9) = (cl_lf w u f (i9 + 1)) from (by rw [cl_lf, if_neg (by rw [q27]; exact Bool.false_ne_true)])]) ?_
          exact ih9 (i9 + 1) (by omega) 
        · skip
          refine am_iload_n (pc := 30) C dX6_leftOf_30 rfl ?_
          refine am_aload_n (pc := 31) C dX6_leftOf_31 rfl ?_
          refine am_getR (pc := 32) (j := 4) C dX6_leftOf_32 f6_21 bn_314 sh_314 (rf_314_1 hR) ?_
          refine am_getR (pc := 35) (j := 8) C dX6_leftOf_35 f6_142 bn_4 sh_4 (rf_4_7 hR) ?_
          refine am_iload (pc := 38) C dX6_leftOf_38 rfl ?_
          refine am_callSNi (Y := mX11_pick) (pc := 40) (st := [.int (cl_lf w u f i9)]) (As := [.ref 8, .int (nI i9)]) (x := ((h 8) i9)) (h2 := h) C dX6_leftOf_40 k6_40 v_X11_pick rfl rfl (by decide) (Nat.zero_le _) (Nat.zero_le _) (Nat.le_of_ble_eq_true rfl) (c_X11_pick 8 i9 16 bn_8 sh_8 (show i9 < 16 from by omega) (by decide)) ?_
          refine am_top (show ((h 8) i9) = (rf_rests w i9) from (hLo.2.1 i9 (by omega)).2.2.2.1) ?_
          refine am_iconst (pc := 43) (v := -1) C dX6_leftOf_43 rfl ?_
          refine am_ixor (pc := 44) C dX6_leftOf_44 ?_
          refine am_iand (pc := 45) C dX6_leftOf_45 ?_
          refine am_istore_n (pc := 46) (ls' := [(0, .ref 314), (1, .int u), (2, .int f), (3, .int ((cl_lf w u f i9) &&& ((rf_rests w i9) ^^^ (-1)))), (4, .int (nI i9))]) C dX6_leftOf_46 (by decide) rfl ?_
          refine am_iincN (pc := 47) (ls' := [(0, .ref 314), (1, .int u), (2, .int f), (3, .int ((cl_lf w u f i9) &&& ((rf_rests w i9) ^^^ (-1)))), (4, .int (nI (i9 + 1)))]) C dX6_leftOf_47 rfl (am_up1 _) (by decide) rfl ?_
          refine am_goto (pc := 50) (tgt := 9) C dX6_leftOf_50 (by decide) ?_
          refine am_lsv (ls' := [(0, .ref 314), (1, .int u), (2, .int f), (3, .int (cl_lf w u f (i9 + 1))), (4, .int (nI (i9 + 1)))]) (by rw [show ((cl_lf w u f i9) &&& ((rf_rests w i9) ^^^ (-1))) = (cl_lf w u f (i9 + 1)) from (by rw [cl_lf, if_pos q27])]) ?_
          exact ih9 (i9 + 1) (by omega) 
  exact L9 (rf_M w) 0 (by omega) 

set_option maxHeartbeats 400000 in
set_option maxRecDepth 100000 in
theorem c_X6_mostHits {ad : Nat → Nat} {r : am_R} (hR : am_rs r) {h : am_H}  (w : rf_W) (hV : rf_I w) (hLo : cl_Lo (h) 4 w) (hSc : cl_Sc (h) 25 w) (hB : rf_n (w 7) 2147483647)  : am_CM mX6_mostHits 2 0 0 [.ref 314] (am_VV ad) r h (am_pr (some (.int (am_oi ((rf_hm w (rf_S w)).1)))) r (fun c9 => cl_fr (h) c9 315 1)) := by
  refine am_CM.of (by decide +kernel) (Nat.le_of_ble_eq_true rfl) (fun X C T => ?_)
  show am_G X (am_VV ad) (0, 0) 0 [(0, .ref 314)] [] r h
  have hM9 : rf_M w < 17 := hV.1.1.2
  have hS9 : rf_S w < 11 := hV.1.2.1.2
  have hO9 : rf_O w < 11 := hV.1.2.2.2
  have hB9 : rf_nat (w 7) < 2147483647 := hB.2
  have hG9 : rf_G w = min 60 (rf_nat (w 7)) := hSc.2.2.2.1
  have hG6 : rf_G w ≤ 60 := by omega
  have hG7 : rf_G w ≤ rf_nat (w 7) := by omega
  refine am_iconstN (pc := 0) (k := 0) C dX6_mostHits_0 ?_
  refine am_istore_n (pc := 1) (ls' := [(0, .ref 314), (1, .int (nI 0))]) C dX6_mostHits_1 (by decide) rfl ?_
  have L2 : ∀ (j2 i2 : Nat), i2 + j2 = 10 → am_G X (am_VV ad) (0, 0) 2 [(0, .ref 314), (1, .int (nI i2))] [] r (am_row h 315 (cl_z (h 315) i2)) := by
    intro j2
    induction j2 with
    | zero =>
      intro i2 hi2 
      obtain rfl : i2 = 10 := by omega
      refine am_iload_n (pc := 2) C dX6_mostHits_2 rfl ?_
      refine am_bipush (pc := 3) (v := nI 10) C dX6_mostHits_3 (by decide) ?_
      refine am_icmp_geN (pc := 5) (tgt := 21) C dX6_mostHits_5 (by decide) (by omega) (by omega) (fun q5 => ?_) (fun q5 => ?_)
      · skip
        refine am_aload_n (pc := 21) C dX6_mostHits_21 rfl ?_
        refine am_getR (pc := 22) (j := 25) C dX6_mostHits_22 f6_26 bn_314 sh_314 (rf_314_2 hR) ?_
        refine am_callVi (Y := mX5_rowCount) (pc := 25) (st := []) (As := []) (x := (nI (rf_G w))) (h2 := (am_row h 315 (cl_z (h 315) 10))) C dX6_mostHits_25 k6_148 v_X5_rowCount rfl rfl bn_25 sh_25 ⟨by decide, rfl⟩ (by decide) (Nat.zero_le _) (Nat.zero_le _) (Nat.le_of_ble_eq_true rfl) (c_X5_rowCount hR w hV (cl_Sc_eq (fun i9 h9 g9 => by rw [am_row_ne _ _ _ (by omega)]) hSc) (show rf_n (w 7) 2147483647 from hB)) ?_
        refine am_istore_n (pc := 28) (ls' := [(0, .ref 314), (1, .int (nI (rf_G w)))]) C dX6_mostHits_28 (by decide) rfl ?_
        refine am_iconstN (pc := 29) (k := 0) C dX6_mostHits_29 ?_
        refine am_istore_n (pc := 30) (ls' := [(0, .ref 314), (1, .int (nI (rf_G w))), (2, .int (nI 0))]) C dX6_mostHits_30 (by decide) rfl ?_
        have L31 : ∀ (j31 i31 : Nat), i31 + j31 = rf_G w → am_G X (am_VV ad) (0, 0) 31 [(0, .ref 314), (1, .int (nI (rf_G w))), (2, .int (nI i31))] [] r (am_row h 315 (cl_ht w (h 315) i31)) := by
          intro j31
          induction j31 with
          | zero =>
            intro i31 hi31 
            obtain rfl : i31 = rf_G w := by omega
            refine am_iload_n (pc := 31) C dX6_mostHits_31 rfl ?_
            refine am_iload_n (pc := 32) C dX6_mostHits_32 rfl ?_
            refine am_icmp_geN (pc := 33) (tgt := 72) C dX6_mostHits_33 (by decide) (by omega) (by omega) (fun q33 => ?_) (fun q33 => ?_)
            · skip
              refine am_iconst (pc := 72) (v := -1) C dX6_mostHits_72 rfl ?_
              refine am_istore_n (pc := 73) (ls' := [(0, .ref 314), (1, .int (nI (rf_G w))), (2, .int (-1))]) C dX6_mostHits_73 (by decide) rfl ?_
              refine am_iconstN (pc := 74) (k := 0) C dX6_mostHits_74 ?_
              refine am_istore_n (pc := 75) (ls' := [(0, .ref 314), (1, .int (nI (rf_G w))), (2, .int (-1)), (3, .int (nI 0))]) C dX6_mostHits_75 (by decide) rfl ?_
              refine am_iconstN (pc := 76) (k := 0) C dX6_mostHits_76 ?_
              refine am_istore (pc := 77) (ls' := [(0, .ref 314), (1, .int (nI (rf_G w))), (2, .int (-1)), (3, .int (nI 0)), (4, .int (nI 0))]) C dX6_mostHits_77 (by decide) rfl ?_
              have L79 : ∀ (j79 i79 : Nat), i79 + j79 = 10 → am_G X (am_VV ad) (0, 0) 79 [(0, .ref 314), (1, .int (nI (rf_G w))), (2, .int (am_oi ((rf_hm w i79).1))), (3, .int (nI ((rf_hm w i79).2))), (4, .int (nI i79))] [] r (am_row h 315 (cl_ht w (h 315) (rf_G w))) := by
                intro j79
                induction j79 with
                | zero =>
                  intro i79 hi79 
                  obtain rfl : i79 = 10 := by omega
                  refine am_iload (pc := 79) C dX6_mostHits_79 rfl ?_
                  refine am_bipush (pc := 81) (v := nI 10) C dX6_mostHits_81 (by decide) ?_
                  refine am_icmp_geN (pc := 83) (tgt := 118) C dX6_mostHits_83 (by decide) (by omega) (by omega) (fun q83 => ?_) (fun q83 => ?_)
                  · skip
                    refine am_iload_n (pc := 118) C dX6_mostHits_118 rfl ?_
                    exact am_iretir T dX6_mostHits_119 rfl (Nat.le_refl _) (Nat.le_refl _) (by rw [rf_hm_10 hV]) rfl (fun i9 h9 => by rw [am_row_ne _ _ _ (by omega)])
                  · skip
                    exact absurd q83 (by omega)
                | succ j79 ih79 =>
                  intro i79 hi79 
                  have hl79 : i79 < 10 := by omega
                  have hm9 := rf_hm_le (w := w) i79
                  have hc9 := rf_cnt_le (fun k => decide (rf_log w k 1 = nI i79)) (rf_G w)
                  refine am_iload (pc := 79) C dX6_mostHits_79 rfl ?_
                  refine am_bipush (pc := 81) (v := nI 10) C dX6_mostHits_81 (by decide) ?_
                  refine am_icmp_geN (pc := 83) (tgt := 118) C dX6_mostHits_83 (by decide) (by omega) (by omega) (fun q83 => ?_) (fun q83 => ?_)
                  · skip
                    exact absurd q83 (by omega)
                  · skip
                    refine am_aload_n (pc := 86) C dX6_mostHits_86 rfl ?_
                    refine am_getR (pc := 87) (j := 315) C dX6_mostHits_87 f6_27 bn_314 sh_314 (rf_314_3 hR) ?_
                    refine am_iload (pc := 90) C dX6_mostHits_90 rfl ?_
                    refine am_callSNi (Y := mX11_pick) (pc := 92) (st := []) (As := [.ref 315, .int (nI i79)]) (x := ((cl_ht w (h 315) (rf_G w)) i79)) (h2 := (am_row h 315 (cl_ht w (h 315) (rf_G w)))) C dX6_mostHits_92 k6_40 v_X11_pick rfl rfl (by decide) (Nat.zero_le _) (Nat.zero_le _) (Nat.le_of_ble_eq_true rfl) (c_X11_pick 315 i79 10 bn_315 sh_315 (show i79 < 10 from by omega) (by decide)) ?_
                    refine am_top (show ((cl_ht w (h 315) (rf_G w)) i79) = (nI (rf_cnt (fun k => decide (rf_log w k 1 = nI i79)) (rf_G w))) from ((cl_ht_at (by omega)).trans (congrArg nI (cl_ht_cnt hG9)))) ?_
                    refine am_iload_n (pc := 95) C dX6_mostHits_95 rfl ?_
                    refine am_icmp_leN (pc := 96) (tgt := 112) C dX6_mostHits_96 (by decide) (by omega) (by omega) (fun q94 => ?_) (fun q94 => ?_)
                    · skip
                      refine am_iincN (pc := 112) (ls' := [(0, .ref 314), (1, .int (nI (rf_G w))), (2, .int (am_oi ((rf_hm w i79).1))), (3, .int (nI ((rf_hm w i79).2))), (4, .int (nI (i79 + 1)))]) C dX6_mostHits_112 rfl (am_up1 _) (by decide) rfl ?_
                      refine am_goto (pc := 115) (tgt := 79) C dX6_mostHits_115 (by decide) ?_
                      refine am_lsv (ls' := [(0, .ref 314), (1, .int (nI (rf_G w))), (2, .int (am_oi ((rf_hm w (i79 + 1)).1))), (3, .int (nI ((rf_hm w i79).2))), (4, .int (nI (i79 + 1)))]) (congrArg (fun z9 : Int32 => ([(0, .ref 314), (1, .int (nI (rf_G w))), (2, Value.int z9), (3, .int (nI ((rf_hm w i79).2))), (4, .int (nI (i79 + 1)))] : List (Nat × Value))) (show (am_oi ((rf_hm w i79).1)) = (am_oi ((rf_hm w (i79 + 1)).1)) from rf_hm_n1 (by omega))) ?_
                      refine am_lsv (ls' := [(0, .ref 314), (1, .int (nI (rf_G w))), (2, .int (am_oi ((rf_hm w (i79 + 1)).1))), (3, .int (nI ((rf_hm w (i79 + 1)).2))), (4, .int (nI (i79 + 1)))]) (congrArg (fun z9 : Int32 => ([(0, .ref 314), (1, .int (nI (rf_G w))), (2, .int (am_oi ((rf_hm w (i79 + 1)).1))), (3, Value.int z9), (4, .int (nI (i79 + 1)))] : List (Nat × Value))) (show (nI ((rf_hm w i79).2)) = (nI ((rf_hm w (i79 + 1)).2)) from rf_hm_n2 (by omega))) ?_
                      exact ih79 (i79 + 1) (by omega) 
                    · skip
                      refine am_iload (pc := 99) C dX6_mostHits_99 rfl ?_
                      refine am_istore_n (pc := 101) (ls' := [(0, .ref 314), (1, .int (nI (rf_G w))), (2, .int (nI i79)), (3, .int (nI ((rf_hm w i79).2))), (4, .int (nI i79))]) C dX6_mostHits_101 (by decide) rfl ?_
                      refine am_aload_n (pc := 102) C dX6_mostHits_102 rfl ?_
                      refine am_getR (pc := 103) (j := 315) C dX6_mostHits_103 f6_27 bn_314 sh_314 (rf_314_3 hR) ?_
                      refine am_iload (pc := 106) C dX6_mostHits_106 rfl ?_
                      refine am_callSNi (Y := mX11_pick) (pc := 108) (st := []) (As := [.ref 315, .int (nI i79)]) (x := ((cl_ht w (h 315) (rf_G w)) i79)) (h2 := (am_row h 315 (cl_ht w (h 315) (rf_G w)))) C dX6_mostHits_108 k6_40 v_X11_pick rfl rfl (by decide) (Nat.zero_le _) (Nat.zero_le _) (Nat.le_of_ble_eq_true rfl) (c_X11_pick 315 i79 10 bn_315 sh_315 (show i79 < 10 from by omega) (by decide)) ?_
                      refine am_top (show ((cl_ht w (h 315) (rf_G w)) i79) = (nI (rf_cnt (fun k => decide (rf_log w k 1 = nI i79)) (rf_G w))) from ((cl_ht_at (by omega)).trans (congrArg nI (cl_ht_cnt hG9)))) ?_
                      refine am_istore_n (pc := 111) (ls' := [(0, .ref 314), (1, .int (nI (rf_G w))), (2, .int (nI i79)), (3, .int (nI (rf_cnt (fun k => decide (rf_log w k 1 = nI i79)) (rf_G w)))), (4, .int (nI i79))]) C dX6_mostHits_111 (by decide) rfl ?_
                      refine am_iincN (pc := 112) (ls' := [(0, .ref 314), (1, .int (nI (rf_G w))), (2, .int (nI i79)), (3, .int (nI (rf_cnt (fun k => decide (rf_log w k 1 = nI i79)) (rf_G w)))), (4, .int (nI (i79 + 1)))]) C dX6_mostHits_112 rfl (am_up1 _) (by decide) rfl ?_
                      refine am_goto (pc := 115) (tgt := 79) C dX6_mostHits_115 (by decide) ?_
                      refine am_lsv (ls' := [(0, .ref 314), (1, .int (nI (rf_G w))), (2, .int (am_oi ((rf_hm w (i79 + 1)).1))), (3, .int (nI (rf_cnt (fun k => decide (rf_log w k 1 = nI i79)) (rf_G w)))), (4, .int (nI (i79 + 1)))]) (congrArg (fun z9 : Int32 => ([(0, .ref 314), (1, .int (nI (rf_G w))), (2, Value.int z9), (3, .int (nI (rf_cnt (fun k => decide (rf_log w k 1 = nI i79)) (rf_G w)))), (4, .int (nI (i79 + 1)))] : List (Nat × Value))) (show (nI i79) = (am_oi ((rf_hm w (i79 + 1)).1)) from rf_hm_y1 (by omega))) ?_
                      refine am_lsv (ls' := [(0, .ref 314), (1, .int (nI (rf_G w))), (2, .int (am_oi ((rf_hm w (i79 + 1)).1))), (3, .int (nI ((rf_hm w (i79 + 1)).2))), (4, .int (nI (i79 + 1)))]) (congrArg (fun z9 : Int32 => ([(0, .ref 314), (1, .int (nI (rf_G w))), (2, .int (am_oi ((rf_hm w (i79 + 1)).1))), (3, Value.int z9), (4, .int (nI (i79 + 1)))] : List (Nat × Value))) (show (nI (rf_cnt (fun k => decide (rf_log w k 1 = nI i79)) (rf_G w))) = (nI ((rf_hm w (i79 + 1)).2)) from rf_hm_y2 (by omega))) ?_
                      exact ih79 (i79 + 1) (by omega) 
              refine am_lsv (ls' := [(0, .ref 314), (1, .int (nI (rf_G w))), (2, .int (am_oi ((rf_hm w 0).1))), (3, .int (nI 0)), (4, .int (nI 0))]) (congrArg (fun z9 : Int32 => ([(0, .ref 314), (1, .int (nI (rf_G w))), (2, Value.int z9), (3, .int (nI 0)), (4, .int (nI 0))] : List (Nat × Value))) (show (-1) = (am_oi ((rf_hm w 0).1)) from (by first | exact am_oi_0.symm | rfl))) ?_
              refine am_lsv (ls' := [(0, .ref 314), (1, .int (nI (rf_G w))), (2, .int (am_oi ((rf_hm w 0).1))), (3, .int (nI ((rf_hm w 0).2))), (4, .int (nI 0))]) (congrArg (fun z9 : Int32 => ([(0, .ref 314), (1, .int (nI (rf_G w))), (2, .int (am_oi ((rf_hm w 0).1))), (3, Value.int z9), (4, .int (nI 0))] : List (Nat × Value))) (show (nI 0) = (nI ((rf_hm w 0).2)) from (by first | exact am_oi_0.symm | rfl))) ?_
              exact L79 10 0 (by omega) 
            · skip
              exact absurd q33 (by omega)
          | succ j31 ih31 =>
            intro i31 hi31 
            have hl31 : i31 < rf_G w := by omega
            have hig : i31 < 60 := by omega
            have hcg := cl_row_lt (w := w) i31 (by omega) hG9
            have hcc := cl_row_cl (w := w) i31 (by omega) hG9
            have hby := (hV.2.2.2.2.2.2.2 _ hcg).1
            have hby2 : rf_nat (rf_log w (cl_row w i31) 1) < rf_S w := hby.2
            have hrw := (hSc.2.2.2.2 _ hcg).2.1
            rw [hcc] at hrw
            have hct := rf_cnt_le (fun a => decide (rf_log w (cl_row w a) 1 = nI (rf_nat (rf_log w (cl_row w i31) 1)))) i31
            refine am_iload_n (pc := 31) C dX6_mostHits_31 rfl ?_
            refine am_iload_n (pc := 32) C dX6_mostHits_32 rfl ?_
            refine am_icmp_geN (pc := 33) (tgt := 72) C dX6_mostHits_33 (by decide) (by omega) (by omega) (fun q33 => ?_) (fun q33 => ?_)
            · skip
              exact absurd q33 (by omega)
            · skip
              refine am_aload_n (pc := 36) C dX6_mostHits_36 rfl ?_
              refine am_getR (pc := 37) (j := 25) C dX6_mostHits_37 f6_26 bn_314 sh_314 (rf_314_2 hR) ?_
              refine am_getR (pc := 40) (j := 36) C dX6_mostHits_40 f6_152 bn_25 sh_25 (rf_25_15 hR) ?_
              refine am_iload_n (pc := 43) C dX6_mostHits_43 rfl ?_
              refine am_callSNi (Y := mX11_pick) (pc := 44) (st := []) (As := [.ref 36, .int (nI i31)]) (x := ((h 36) i31)) (h2 := (am_row h 315 (cl_ht w (h 315) i31))) C dX6_mostHits_44 k6_40 v_X11_pick rfl rfl (by decide) (Nat.zero_le _) (Nat.zero_le _) (Nat.le_of_ble_eq_true rfl) (c_X11_pick 36 i31 60 bn_36 sh_36 (show i31 < 60 from by omega) (by decide)) ?_
              refine am_top (show ((h 36) i31) = (nI (rf_nat (rf_log w (cl_row w i31) 1))) from (hrw.trans hby.1)) ?_
              refine am_istore_n (pc := 47) (ls' := [(0, .ref 314), (1, .int (nI (rf_G w))), (2, .int (nI i31)), (3, .int (nI (rf_nat (rf_log w (cl_row w i31) 1))))]) C dX6_mostHits_47 (by decide) rfl ?_
              refine am_aload_n (pc := 48) C dX6_mostHits_48 rfl ?_
              refine am_getR (pc := 49) (j := 315) C dX6_mostHits_49 f6_27 bn_314 sh_314 (rf_314_3 hR) ?_
              refine am_iload_n (pc := 52) C dX6_mostHits_52 rfl ?_
              refine am_aload_n (pc := 53) C dX6_mostHits_53 rfl ?_
              refine am_getR (pc := 54) (j := 315) C dX6_mostHits_54 f6_27 bn_314 sh_314 (rf_314_3 hR) ?_
              refine am_iload_n (pc := 57) C dX6_mostHits_57 rfl ?_
              refine am_callSNi (Y := mX11_pick) (pc := 58) (st := [.int (nI (rf_nat (rf_log w (cl_row w i31) 1))), .ref 315]) (As := [.ref 315, .int (nI (rf_nat (rf_log w (cl_row w i31) 1)))]) (x := ((cl_ht w (h 315) i31) (rf_nat (rf_log w (cl_row w i31) 1)))) (h2 := (am_row h 315 (cl_ht w (h 315) i31))) C dX6_mostHits_58 k6_40 v_X11_pick rfl rfl (by decide) (Nat.zero_le _) (Nat.zero_le _) (Nat.le_of_ble_eq_true rfl) (c_X11_pick 315 (rf_nat (rf_log w (cl_row w i31) 1)) 10 bn_315 sh_315 (show rf_nat (rf_log w (cl_row w i31) 1) < 10 from by omega) (by decide)) ?_
              refine am_top (show ((cl_ht w (h 315) i31) (rf_nat (rf_log w (cl_row w i31) 1))) = (nI (rf_cnt (fun a => decide (rf_log w (cl_row w a) 1 = nI (rf_nat (rf_log w (cl_row w i31) 1)))) i31)) from (cl_ht_at (by omega))) ?_
              refine am_iconstN (pc := 61) (k := 1) C dX6_mostHits_61 ?_
              refine am_iaddN (pc := 62) C dX6_mostHits_62 ?_
              refine am_callSNv (Y := mX11_put) (pc := 63) (st := []) (As := [.ref 315, .int (nI (rf_nat (rf_log w (cl_row w i31) 1))), .int (nI ((rf_cnt (fun a => decide (rf_log w (cl_row w a) 1 = nI (rf_nat (rf_log w (cl_row w i31) 1)))) i31) + 1))]) (h2 := (am_row (am_row h 315 (cl_ht w (h 315) i31)) 315 (upd (cl_ht w (h 315) i31) (rf_nat (rf_log w (cl_row w i31) 1)) (nI ((rf_cnt (fun a => decide (rf_log w (cl_row w a) 1 = nI (rf_nat (rf_log w (cl_row w i31) 1)))) i31) + 1))))) C dX6_mostHits_63 k6_155 v_X11_put rfl rfl (by decide) (Nat.zero_le _) (Nat.zero_le _) (Nat.le_of_ble_eq_true rfl) (c_X11_put 315 (rf_nat (rf_log w (cl_row w i31) 1)) (nI ((rf_cnt (fun a => decide (rf_log w (cl_row w a) 1 = nI (rf_nat (rf_log w (cl_row w i31) 1)))) i31) + 1)) 10 bn_315 sh_315 (show rf_nat (rf_log w (cl_row w i31) 1) < 10 from by omega) (by decide)) ?_
              refine am_hp (show (am_row (am_row h 315 (cl_ht w (h 315) i31)) 315 (upd (cl_ht w (h 315) i31) (rf_nat (rf_log w (cl_row w i31) 1)) (nI ((rf_cnt (fun a => decide (rf_log w (cl_row w a) 1 = nI (rf_nat (rf_log w (cl_row w i31) 1)))) i31) + 1)))) = (am_row h 315 (upd (cl_ht w (h 315) i31) (rf_nat (rf_log w (cl_row w i31) 1)) (nI ((rf_cnt (fun a => decide (rf_log w (cl_row w a) 1 = nI (rf_nat (rf_log w (cl_row w i31) 1)))) i31) + 1)))) from am_row_s0) ?_
              refine am_iincN (pc := 66) (ls' := [(0, .ref 314), (1, .int (nI (rf_G w))), (2, .int (nI (i31 + 1))), (3, .int (nI (rf_nat (rf_log w (cl_row w i31) 1))))]) C dX6_mostHits_66 rfl (am_up1 _) (by decide) rfl ?_
              refine am_goto (pc := 69) (tgt := 31) C dX6_mostHits_69 (by decide) ?_
              refine am_sub (ls' := [(0, .ref 314), (1, .int (nI (rf_G w))), (2, .int (nI (i31 + 1)))]) (by intro q hq; simp only [List.mem_cons, List.not_mem_nil, or_false] at hq ⊢; rcases hq with rfl | rfl | rfl <;> simp) ?_
              refine am_hp (show (am_row h 315 (upd (cl_ht w (h 315) i31) (rf_nat (rf_log w (cl_row w i31) 1)) (nI ((rf_cnt (fun a => decide (rf_log w (cl_row w a) 1 = nI (rf_nat (rf_log w (cl_row w i31) 1)))) i31) + 1)))) = (am_row h 315 (cl_ht w (h 315) (i31 + 1))) from congrArg (am_row _ 315) (cl_ht_step _ hby.1 (by omega))) ?_
              exact ih31 (i31 + 1) (by omega) 
        refine am_sub (ls' := [(0, .ref 314), (1, .int (nI (rf_G w))), (2, .int (nI 0))]) (by intro q hq; simp only [List.mem_cons, List.not_mem_nil, or_false] at hq ⊢; rcases hq with rfl | rfl | rfl <;> simp) ?_
        refine am_hp (show (am_row h 315 (cl_z (h 315) 10)) = (am_row h 315 (cl_ht w (h 315) 0)) from (congrArg (am_row _ 315) (cl_z_ht))) ?_
        exact L31 (rf_G w) 0 (by omega) 
      · skip
        exact absurd q5 (by omega)
    | succ j2 ih2 =>
      intro i2 hi2 
      have hl2 : i2 < 10 := by omega
      refine am_iload_n (pc := 2) C dX6_mostHits_2 rfl ?_
      refine am_bipush (pc := 3) (v := nI 10) C dX6_mostHits_3 (by decide) ?_
      refine am_icmp_geN (pc := 5) (tgt := 21) C dX6_mostHits_5 (by decide) (by omega) (by omega) (fun q5 => ?_) (fun q5 => ?_)
      · skip
        exact absurd q5 (by omega)
      · skip
        refine am_aload_n (pc := 8) C dX6_mostHits_8 rfl ?_
        refine am_getR (pc := 9) (j := 315) C dX6_mostHits_9 f6_27 bn_314 sh_314 (rf_314_3 hR) ?_
        refine am_iload_n (pc := 12) C dX6_mostHits_12 rfl ?_
        refine am_iconstN (pc := 13) (k := 0) C dX6_mostHits_13 ?_
        refine am_iastore (pc := 14) C dX6_mostHits_14 bn_315 sh_315 (vp_in_nI (by omega) (by decide)) ?_
        refine am_hp (show am_up (am_row h 315 (cl_z (h 315) i2)) 315 (nI i2).toNatClampNeg (nI 0) = am_row (am_row h 315 (cl_z (h 315) i2)) 315 (upd (cl_z (h 315) i2) i2 (nI 0)) from by rw [nI_clamp (by omega)]; exact am_up_rw _ _ _ _) ?_
        refine am_hp (show am_row (am_row h 315 (cl_z (h 315) i2)) 315 (upd (cl_z (h 315) i2) i2 (nI 0)) = (am_row h 315 (upd (cl_z (h 315) i2) i2 (nI 0))) from am_row_s0) ?_
        refine am_iincN (pc := 15) (ls' := [(0, .ref 314), (1, .int (nI (i2 + 1)))]) C dX6_mostHits_15 rfl (am_up1 _) (by decide) rfl ?_
        refine am_goto (pc := 18) (tgt := 2) C dX6_mostHits_18 (by decide) ?_
        refine am_hp (show (am_row h 315 (upd (cl_z (h 315) i2) i2 (nI 0))) = (am_row h 315 (cl_z (h 315) (i2 + 1))) from rfl) ?_
        exact ih2 (i2 + 1) (by omega) 
  refine am_hp (show h = (am_row h 315 (cl_z (h 315) 0)) from (am_row_id _ 315).symm) ?_
  exact L2 10 0 (by omega) 

