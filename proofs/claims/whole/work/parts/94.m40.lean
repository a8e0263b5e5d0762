/-! THE CLASS'S PUBLIC CALLS: what must be ahead of them; what asks alone -/
section M40
/-- all that counts is as it was: but the law's own row, what tries, drafts and counts -/
def cl_k (h h9 : am_H) : Prop := ∀ i, (i < 23 ∨ 25 ≤ i) ∧ (i < 40 ∨ 93 ≤ i) ∧ i ≠ 130 ∧ (i < 314 ∨ 322 ≤ i) ∧ i ≠ 335 → h9 i = h i
theorem cl_ol0 {w : rf_W} {d : Nat} {g : Bool} (h : (rf_ol w d g (rf_M w)).1 = 0) : (rf_ol w d g (rf_M w)).2 = 0 := by
  have key : ∀ m, (rf_ol w d g m).1 = 0 → (rf_ol w d g m).2 = 0 := by
    intro m
    induction m with
    | zero => intro _; rfl
    | succ m ih =>
      intro h
      by_cases hc : am_bt (w (11 + d)) m = true ∧ ((rf_ol w d g m).1 = 0 ∨ rf_osum w (nI d) m g (rf_S w) + 1 < (rf_ol w d g m).2)
      · rw [rf_ol_yes hc] at h; exact absurd h (Nat.succ_ne_zero m)
      · rw [rf_ol_no hc] at h ⊢; exact ih h
  exact key _ h
theorem cl_olE {w : rf_W} {d : Nat} {g : Bool} : ∀ m, 0 < (rf_ol w d g m).1 → (rf_ol w d g m).2 = rf_osum w (nI d) ((rf_ol w d g m).1 - 1) g (rf_S w) + 1
  | 0, h => absurd h (Nat.lt_irrefl 0)
  | m + 1, h => by
    by_cases hc : am_bt (w (11 + d)) m = true ∧ ((rf_ol w d g m).1 = 0 ∨ rf_osum w (nI d) m g (rf_S w) + 1 < (rf_ol w d g m).2)
    · rw [rf_ol_yes hc]; rfl
    · rw [rf_ol_no hc] at h ⊢; exact cl_olE m h
theorem cl_oiN {k : Nat} (h : k ≠ 0) : am_oi k = nI (k - 1) := by
  obtain ⟨j, rfl⟩ : ∃ j, k = j + 1 := ⟨k - 1, by omega⟩
  exact am_oi_s j
theorem cl_ol1 {w : rf_W} {d : Nat} {g : Bool} (hI : rf_I w) (_hd : d < 2) (h : (rf_ol w d g (rf_M w)).1 ≠ 0) : am_oi (rf_ol w d g (rf_M w)).2 = nI (rf_osum w (nI d) ((rf_ol w d g (rf_M w)).1 - 1) g (rf_S w)) := by
  rw [cl_olE (rf_M w) (by omega)]
  exact am_oi_s _
theorem cl_lost {w : rf_W} {d : Nat} (hI : rf_I w) (hd : d < 2) : rf_lostOf w d = w (11 + d) &&& (rf_usableBy w (nI d) ^^^ (-1)) := by
  have hM : rf_M w < 17 := hI.1.1.2
  have hS : rf_S w < 11 := hI.1.2.1.2
  have hlo : am_lo (w (11 + d)) (rf_M w) := by
    obtain ⟨-, -, -, -, -, ⟨p1, p2⟩, -, -⟩ := hI
    rcases (show d = 0 ∨ d = 1 by omega) with rfl | rfl
    · exact p1
    · exact p2
  refine am_ext (fun k hk => ?_)
  rw [rf_lostOf, rf_set_bt hk _ (by omega), am_bt_and, am_bt_not hk]
  by_cases hkM : k < rf_M w
  · rw [decide_eq_true hkM, Bool.true_and]
    congr 1
    cases hb : am_bt (rf_usableBy w (nI d)) k with
    | false =>
      refine decide_eq_true (am_ext (fun s hs => ?_))
      rw [am_bt_0, rf_usersOf, am_bt_and, rf_users, rf_sideOf, rf_set_bt hs _ (by omega), rf_set_bt hs _ (by omega)]
      by_cases hsS : s < rf_S w
      · by_cases h0 : rf_of w s 0 = nI d
        · cases hu : am_bt (rf_use w s) k with
          | false => rw [Bool.and_false, Bool.false_and]
          | true =>
            have := (rf_ub_bt (w := w) (d := nI d) (m := k) (rf_S w)).mpr ⟨s, hsS, h0, hu⟩
            rw [rf_usableBy] at hb
            rw [hb] at this
            exact absurd this Bool.false_ne_true
        · rw [decide_eq_false h0, Bool.and_false, Bool.and_false]
      · rw [decide_eq_false hsS, Bool.false_and, Bool.false_and]
    | true =>
      obtain ⟨s, hsS, h0, hu⟩ := (rf_ub_bt (w := w) (d := nI d) (m := k) (rf_S w)).mp hb
      refine decide_eq_false (fun e => ?_)
      have hbt : am_bt (rf_usersOf w (nI d) k) s = true := by
        rw [rf_usersOf, am_bt_and, rf_users, rf_sideOf, rf_set_bt (by omega) _ (by omega), rf_set_bt (by omega) _ (by omega), decide_eq_true hsS, hu, decide_eq_true h0]; rfl
      rw [e, am_bt_0] at hbt
      exact Bool.false_ne_true hbt
  · rw [decide_eq_false hkM, hlo k (by omega), Bool.false_and, Bool.false_and]
theorem cl_many7 {w : rf_W} {a b : Nat} (h : rf_many w a b = false) : rf_kn w a ≤ 7 ∧ rf_kn w b ≤ 7 := by
  rw [rf_many, Bool.or_eq_false_iff, decide_eq_false_iff_not, decide_eq_false_iff_not] at h
  omega
theorem cl_duel {w : rf_W} {a b : Nat} (hI : rf_I w) (ha : a < rf_S w) (hb : b < rf_S w) (hm : rf_many w a b = false) : rf_race (rf_rc w a (2 ^ rf_kn w a - 1)) (rf_rc w b (2 ^ rf_kn w b - 1)) = rf_race (rf_bc (rf_roots w (rf_known w a))) (rf_bc (rf_roots w (rf_known w b))) := by
  rw [← rf_rc_full (hI.2.1 a ha) hI.1.1.2 (cl_many7 hm).1, ← rf_rc_full (hI.2.1 b hb) hI.1.1.2 (cl_many7 hm).2]
theorem cl_bestA {w : rf_W} {a b : Nat} (hI : rf_I w) (ha : a < rf_S w) (hb : b < rf_S w) (hm : rf_many w a b = false) : (if 0 < rf_rc w a (2 ^ rf_kn w a - 1) then am_oi (rf_bst w a b (rf_kn w b)) else -1) = (if rf_bc (rf_roots w (rf_known w a)) < 1 then -1 else rf_sea (fun m => am_bt (rf_known w b) m && !rf_race (rf_bc (rf_roots w (rf_known w b) &&& ((nI 1 <<< (nI m &&& 31)) ^^^ (-1)))) (rf_bc (rf_roots w (rf_known w a)))) (fun m => nI m) (rf_M w) 0) := by
  have e := rf_rc_full (hI.2.1 a ha) hI.1.1.2 (cl_many7 hm).1
  have h2 := cl_best_eq (hI.2.1 a ha) (hI.2.1 b hb) hI.1.1.2 (cl_many7 hm).1 (cl_many7 hm).2
  by_cases h : 0 < rf_rc w a (2 ^ rf_kn w a - 1)
  · rw [if_pos h, if_neg (show ¬ rf_bc (rf_roots w (rf_known w a)) < 1 by omega), h2]
  · rw [if_neg h, if_pos (show rf_bc (rf_roots w (rf_known w a)) < 1 by omega)]
end M40

set_option maxHeartbeats 400000 in
set_option maxRecDepth 100000 in
theorem c_X11_needMemory {ad : Nat → Nat} {r : am_R} (hR : am_rs r) {h : am_H} (m : Int32) (w : rf_W) (hV : rf_I w) (hLo : cl_Lo (h) 4 w)  : am_XM mX11_needMemory 6 1 6 [.ref 0, .int m] (am_VV ad) r h (fun v r9 h9 => (rf_okN m (rf_M w) = true) ∧ v = none ∧ r = r9 ∧ h = h9) (fun E r9 h9 => ((rf_okN m (rf_M w) = false ∧ E = "java/lang/IndexOutOfBoundsException")) ∧ r = r9 ∧ h = h9) := by
  refine am_XM.of (by decide +kernel) (Nat.le_of_ble_eq_true rfl) (by decide) (fun X C T TX => ?_)
  show am_G X (am_VV ad) (0, 0) 0 [(0, .ref 0), (1, .int m)] [] r h
  have hM9 : rf_M w < 17 := hV.1.1.2
  have hS9 : rf_S w < 11 := hV.1.2.1.2
  have hO9 : rf_O w < 11 := hV.1.2.2.2
  refine am_iload_n (pc := 0) C dX11_needMemory_0 rfl ?_
  refine am_if_lt (pc := 1) (tgt := 18) C dX11_needMemory_1 (by decide) (fun q1 => ?_) (fun q1 => ?_)
  · skip
    exact (TX "java/lang/IndexOutOfBoundsException" r h ⟨⟨ex_okl q1, rfl⟩, rfl, rfl⟩ (0, 0) 18 [(0, .ref 0), (1, .int m)] (Nat.le_of_ble_eq_true rfl) (Nat.le_of_ble_eq_true rfl)).2 (Nat.le_of_ble_eq_true rfl) (Nat.le_of_ble_eq_true rfl) ⟨rfl, 247, 489, 251, 25, 25, "no such memory", ex_ok_IB, ⟨List.mem_of_getElem? (i := 26) rfl, by decide⟩, dX11_needMemory_18, dX11_needMemory_21, Or.inr ⟨dX11_needMemory_22, rfl⟩, dX11_needMemory_25, dX11_needMemory_28⟩ [] (by decide)
  · skip
    refine am_iload_n (pc := 4) C dX11_needMemory_4 rfl ?_
    refine am_aload_n (pc := 5) C dX11_needMemory_5 rfl ?_
    refine am_getR (pc := 6) (j := 3) C dX11_needMemory_6 f11_27 bn_0 sh_0 (rf_0_1 hR) ?_
    refine am_getR (pc := 9) (j := 4) C dX11_needMemory_9 f11_31 bn_3 sh_3 (rf_3_0 hR) ?_
    refine am_getI (pc := 12) C dX11_needMemory_12 f11_474 bn_4 sh_4 ?_
    refine am_top (show ((h 4) 1) = (nI (rf_M w)) from (hLo.1.2.1.trans hV.1.1.1)) ?_
    refine am_icmp_lt (pc := 15) (tgt := 29) C dX11_needMemory_15 (by decide) (fun q15 => ?_) (fun q15 => ?_)
    · skip
      exact am_vret T dX11_needMemory_29 rfl (Nat.le_of_ble_eq_true rfl) (Nat.le_of_ble_eq_true rfl) ⟨ex_okt (by omega) q1 q15, rfl, rfl, rfl⟩
    · skip
      exact (TX "java/lang/IndexOutOfBoundsException" r h ⟨⟨ex_okg (by omega) q15, rfl⟩, rfl, rfl⟩ (0, 0) 18 [(0, .ref 0), (1, .int m)] (Nat.le_of_ble_eq_true rfl) (Nat.le_of_ble_eq_true rfl)).2 (Nat.le_of_ble_eq_true rfl) (Nat.le_of_ble_eq_true rfl) ⟨rfl, 247, 489, 251, 25, 25, "no such memory", ex_ok_IB, ⟨List.mem_of_getElem? (i := 26) rfl, by decide⟩, dX11_needMemory_18, dX11_needMemory_21, Or.inr ⟨dX11_needMemory_22, rfl⟩, dX11_needMemory_25, dX11_needMemory_28⟩ [] (by decide)

set_option maxHeartbeats 400000 in
set_option maxRecDepth 100000 in
theorem c_X11_needSoldier {ad : Nat → Nat} {r : am_R} (hR : am_rs r) {h : am_H} (s : Int32) (w : rf_W) (hV : rf_I w) (hLo : cl_Lo (h) 4 w)  : am_XM mX11_needSoldier 6 1 6 [.ref 0, .int s] (am_VV ad) r h (fun v r9 h9 => (rf_okN s (rf_S w) = true) ∧ v = none ∧ r = r9 ∧ h = h9) (fun E r9 h9 => ((rf_okN s (rf_S w) = false ∧ E = "java/lang/IndexOutOfBoundsException")) ∧ r = r9 ∧ h = h9) := by
  refine am_XM.of (by decide +kernel) (Nat.le_of_ble_eq_true rfl) (by decide) (fun X C T TX => ?_)
  show am_G X (am_VV ad) (0, 0) 0 [(0, .ref 0), (1, .int s)] [] r h
  have hM9 : rf_M w < 17 := hV.1.1.2
  have hS9 : rf_S w < 11 := hV.1.2.1.2
  have hO9 : rf_O w < 11 := hV.1.2.2.2
  refine am_iload_n (pc := 0) C dX11_needSoldier_0 rfl ?_
  refine am_if_lt (pc := 1) (tgt := 18) C dX11_needSoldier_1 (by decide) (fun q1 => ?_) (fun q1 => ?_)
  · skip
    exact (TX "java/lang/IndexOutOfBoundsException" r h ⟨⟨ex_okl q1, rfl⟩, rfl, rfl⟩ (0, 0) 18 [(0, .ref 0), (1, .int s)] (Nat.le_of_ble_eq_true rfl) (Nat.le_of_ble_eq_true rfl)).2 (Nat.le_of_ble_eq_true rfl) (Nat.le_of_ble_eq_true rfl) ⟨rfl, 247, 491, 251, 27, 25, "no such soldier", ex_ok_IB, ⟨List.mem_of_getElem? (i := 28) rfl, by decide⟩, dX11_needSoldier_18, dX11_needSoldier_21, Or.inr ⟨dX11_needSoldier_22, rfl⟩, dX11_needSoldier_25, dX11_needSoldier_28⟩ [] (by decide)
  · skip
    refine am_iload_n (pc := 4) C dX11_needSoldier_4 rfl ?_
    refine am_aload_n (pc := 5) C dX11_needSoldier_5 rfl ?_
    refine am_getR (pc := 6) (j := 3) C dX11_needSoldier_6 f11_27 bn_0 sh_0 (rf_0_1 hR) ?_
    refine am_getR (pc := 9) (j := 4) C dX11_needSoldier_9 f11_31 bn_3 sh_3 (rf_3_0 hR) ?_
    refine am_getI (pc := 12) C dX11_needSoldier_12 f11_477 bn_4 sh_4 ?_
    refine am_top (show ((h 4) 2) = (nI (rf_S w)) from (hLo.1.2.2.1.trans hV.1.2.1.1)) ?_
    refine am_icmp_lt (pc := 15) (tgt := 29) C dX11_needSoldier_15 (by decide) (fun q15 => ?_) (fun q15 => ?_)
    · skip
      exact am_vret T dX11_needSoldier_29 rfl (Nat.le_of_ble_eq_true rfl) (Nat.le_of_ble_eq_true rfl) ⟨ex_okt (by omega) q1 q15, rfl, rfl, rfl⟩
    · skip
      exact (TX "java/lang/IndexOutOfBoundsException" r h ⟨⟨ex_okg (by omega) q15, rfl⟩, rfl, rfl⟩ (0, 0) 18 [(0, .ref 0), (1, .int s)] (Nat.le_of_ble_eq_true rfl) (Nat.le_of_ble_eq_true rfl)).2 (Nat.le_of_ble_eq_true rfl) (Nat.le_of_ble_eq_true rfl) ⟨rfl, 247, 491, 251, 27, 25, "no such soldier", ex_ok_IB, ⟨List.mem_of_getElem? (i := 28) rfl, by decide⟩, dX11_needSoldier_18, dX11_needSoldier_21, Or.inr ⟨dX11_needSoldier_22, rfl⟩, dX11_needSoldier_25, dX11_needSoldier_28⟩ [] (by decide)

set_option maxHeartbeats 400000 in
set_option maxRecDepth 100000 in
theorem c_X11_needThing {ad : Nat → Nat} {r : am_R} (hR : am_rs r) {h : am_H} (k : Int32) (w : rf_W) (hV : rf_I w) (hSc : cl_Sc (h) 25 w)  : am_XM mX11_needThing 6 1 6 [.ref 0, .int k] (am_VV ad) r h (fun v r9 h9 => (rf_okN k (rf_F w) = true) ∧ v = none ∧ r = r9 ∧ h = h9) (fun E r9 h9 => ((rf_okN k (rf_F w) = false ∧ E = "java/lang/IndexOutOfBoundsException")) ∧ r = r9 ∧ h = h9) := by
  refine am_XM.of (by decide +kernel) (Nat.le_of_ble_eq_true rfl) (by decide) (fun X C T TX => ?_)
  show am_G X (am_VV ad) (0, 0) 0 [(0, .ref 0), (1, .int k)] [] r h
  have hM9 : rf_M w < 17 := hV.1.1.2
  have hS9 : rf_S w < 11 := hV.1.2.1.2
  have hO9 : rf_O w < 11 := hV.1.2.2.2
  have hF9 : rf_F w < 41 := hV.2.2.2.2.1.2.2.1.2
  refine am_iload_n (pc := 0) C dX11_needThing_0 rfl ?_
  refine am_if_lt (pc := 1) (tgt := 18) C dX11_needThing_1 (by decide) (fun q1 => ?_) (fun q1 => ?_)
  · skip
    exact (TX "java/lang/IndexOutOfBoundsException" r h ⟨⟨ex_okl q1, rfl⟩, rfl, rfl⟩ (0, 0) 18 [(0, .ref 0), (1, .int k)] (Nat.le_of_ble_eq_true rfl) (Nat.le_of_ble_eq_true rfl)).2 (Nat.le_of_ble_eq_true rfl) (Nat.le_of_ble_eq_true rfl) ⟨rfl, 247, 497, 251, 36, 25, "no such thing in the field", ex_ok_IB, ⟨List.mem_of_getElem? (i := 37) rfl, by decide⟩, dX11_needThing_18, dX11_needThing_21, Or.inr ⟨dX11_needThing_22, rfl⟩, dX11_needThing_25, dX11_needThing_28⟩ [] (by decide)
  · skip
    refine am_iload_n (pc := 4) C dX11_needThing_4 rfl ?_
    refine am_aload_n (pc := 5) C dX11_needThing_5 rfl ?_
    refine am_getR (pc := 6) (j := 3) C dX11_needThing_6 f11_27 bn_0 sh_0 (rf_0_1 hR) ?_
    refine am_getR (pc := 9) (j := 25) C dX11_needThing_9 f11_177 bn_3 sh_3 (rf_3_2 hR) ?_
    refine am_getI (pc := 12) C dX11_needThing_12 f11_480 bn_25 sh_25 ?_
    refine am_top (show ((h 25) 4) = (nI (rf_F w)) from (hSc.1.2.2.2.2.trans hV.2.2.2.2.1.2.2.1.1)) ?_
    refine am_icmp_lt (pc := 15) (tgt := 29) C dX11_needThing_15 (by decide) (fun q15 => ?_) (fun q15 => ?_)
    · skip
      exact am_vret T dX11_needThing_29 rfl (Nat.le_of_ble_eq_true rfl) (Nat.le_of_ble_eq_true rfl) ⟨ex_okt (by omega) q1 q15, rfl, rfl, rfl⟩
    · skip
      exact (TX "java/lang/IndexOutOfBoundsException" r h ⟨⟨ex_okg (by omega) q15, rfl⟩, rfl, rfl⟩ (0, 0) 18 [(0, .ref 0), (1, .int k)] (Nat.le_of_ble_eq_true rfl) (Nat.le_of_ble_eq_true rfl)).2 (Nat.le_of_ble_eq_true rfl) (Nat.le_of_ble_eq_true rfl) ⟨rfl, 247, 497, 251, 36, 25, "no such thing in the field", ex_ok_IB, ⟨List.mem_of_getElem? (i := 37) rfl, by decide⟩, dX11_needThing_18, dX11_needThing_21, Or.inr ⟨dX11_needThing_22, rfl⟩, dX11_needThing_25, dX11_needThing_28⟩ [] (by decide)

set_option maxHeartbeats 400000 in
set_option maxRecDepth 100000 in
theorem c_X11_needUnlike {ad : Nat → Nat} {r : am_R} (hR : am_rs r) {h : am_H} (a : Int32) (b : Int32)   : am_XM mX11_needUnlike 6 1 6 [.int a, .int b] (am_VV ad) r h (fun v r9 h9 => (decide (a = b) = false) ∧ v = none ∧ r = r9 ∧ h = h9) (fun E r9 h9 => ((decide (a = b) = true ∧ E = "java/lang/IllegalArgumentException")) ∧ r = r9 ∧ h = h9) := by
  refine am_XM.of (by decide +kernel) (Nat.le_of_ble_eq_true rfl) (by decide) (fun X C T TX => ?_)
  show am_G X (am_VV ad) (0, 0) 0 [(0, .int a), (1, .int b)] [] r h
  refine am_iload_n (pc := 0) C dX11_needUnlike_0 rfl ?_
  refine am_iload_n (pc := 1) C dX11_needUnlike_1 rfl ?_
  refine am_icmp_ne (pc := 2) (tgt := 16) C dX11_needUnlike_2 (by decide) (fun q2 => ?_) (fun q2 => ?_)
  · skip
    exact am_vret T dX11_needUnlike_16 rfl (Nat.le_of_ble_eq_true rfl) (Nat.le_of_ble_eq_true rfl) ⟨decide_eq_false q2, rfl, rfl, rfl⟩
  · skip
    exact (TX "java/lang/IllegalArgumentException" r h ⟨⟨decide_eq_true q2, rfl⟩, rfl, rfl⟩ (0, 0) 5 [(0, .int a), (1, .int b)] (Nat.le_of_ble_eq_true rfl) (Nat.le_of_ble_eq_true rfl)).2 (Nat.le_of_ble_eq_true rfl) (Nat.le_of_ble_eq_true rfl) ⟨rfl, 122, 493, 126, 33, 12, "both are one", ex_ok_IA, ⟨List.mem_of_getElem? (i := 34) rfl, by decide⟩, dX11_needUnlike_5, dX11_needUnlike_8, Or.inr ⟨dX11_needUnlike_9, rfl⟩, dX11_needUnlike_12, dX11_needUnlike_15⟩ [] (by decide)

set_option maxHeartbeats 400000 in
set_option maxRecDepth 100000 in
theorem c_X11_needSide {ad : Nat → Nat} {r : am_R} (hR : am_rs r) {h : am_H} (d : Int32)   : am_XM mX11_needSide 6 1 6 [.int d] (am_VV ad) r h (fun v r9 h9 => (rf_in d (nI 0) (nI 1) = true) ∧ v = none ∧ r = r9 ∧ h = h9) (fun E r9 h9 => ((rf_in d (nI 0) (nI 1) = false ∧ E = "java/lang/IndexOutOfBoundsException")) ∧ r = r9 ∧ h = h9) := by
  refine am_XM.of (by decide +kernel) (Nat.le_of_ble_eq_true rfl) (by decide) (fun X C T TX => ?_)
  show am_G X (am_VV ad) (0, 0) 0 [(0, .int d)] [] r h
  refine am_iload_n (pc := 0) C dX11_needSide_0 rfl ?_
  refine am_if_lt (pc := 1) (tgt := 9) C dX11_needSide_1 (by decide) (fun q1 => ?_) (fun q1 => ?_)
  · skip
    exact (TX "java/lang/IndexOutOfBoundsException" r h ⟨⟨rf_in_lt q1, rfl⟩, rfl, rfl⟩ (0, 0) 9 [(0, .int d)] (Nat.le_of_ble_eq_true rfl) (Nat.le_of_ble_eq_true rfl)).2 (Nat.le_of_ble_eq_true rfl) (Nat.le_of_ble_eq_true rfl) ⟨rfl, 247, 495, 251, 40, 16, "no such side", ex_ok_IB, ⟨List.mem_of_getElem? (i := 41) rfl, by decide⟩, dX11_needSide_9, dX11_needSide_12, Or.inr ⟨dX11_needSide_13, rfl⟩, dX11_needSide_16, dX11_needSide_19⟩ [] (by decide)
  · skip
    refine am_iload_n (pc := 4) C dX11_needSide_4 rfl ?_
    refine am_iconstN (pc := 5) (k := 1) C dX11_needSide_5 ?_
    refine am_icmp_le (pc := 6) (tgt := 20) C dX11_needSide_6 (by decide) (fun q6 => ?_) (fun q6 => ?_)
    · skip
      exact am_vret T dX11_needSide_20 rfl (Nat.le_of_ble_eq_true rfl) (Nat.le_of_ble_eq_true rfl) ⟨rf_in_ok q1 (Int32.not_lt.mpr q6), rfl, rfl, rfl⟩
    · skip
      exact (TX "java/lang/IndexOutOfBoundsException" r h ⟨⟨rf_in_gt (Int32.not_le.mp q6), rfl⟩, rfl, rfl⟩ (0, 0) 9 [(0, .int d)] (Nat.le_of_ble_eq_true rfl) (Nat.le_of_ble_eq_true rfl)).2 (Nat.le_of_ble_eq_true rfl) (Nat.le_of_ble_eq_true rfl) ⟨rfl, 247, 495, 251, 40, 16, "no such side", ex_ok_IB, ⟨List.mem_of_getElem? (i := 41) rfl, by decide⟩, dX11_needSide_9, dX11_needSide_12, Or.inr ⟨dX11_needSide_13, rfl⟩, dX11_needSide_16, dX11_needSide_19⟩ [] (by decide)

set_option maxHeartbeats 400000 in
set_option maxRecDepth 100000 in
theorem c_X11_needNumber {ad : Nat → Nat} {r : am_R} (hR : am_rs r) {h : am_H} (n : Int32) (lo : Nat) (hi : Nat)   : am_XM mX11_needNumber 6 1 6 [.int n, .int (nI lo), .int (nI hi)] (am_VV ad) r h (fun v r9 h9 => (rf_in n (nI lo) (nI hi) = true) ∧ v = none ∧ r = r9 ∧ h = h9) (fun E r9 h9 => ((rf_in n (nI lo) (nI hi) = false ∧ E = "java/lang/IllegalArgumentException")) ∧ r = r9 ∧ h = h9) := by
  refine am_XM.of (by decide +kernel) (Nat.le_of_ble_eq_true rfl) (by decide) (fun X C T TX => ?_)
  show am_G X (am_VV ad) (0, 0) 0 [(0, .int n), (1, .int (nI lo)), (2, .int (nI hi))] [] r h
  refine am_iload_n (pc := 0) C dX11_needNumber_0 rfl ?_
  refine am_iload_n (pc := 1) C dX11_needNumber_1 rfl ?_
  refine am_icmp_lt (pc := 2) (tgt := 10) C dX11_needNumber_2 (by decide) (fun q2 => ?_) (fun q2 => ?_)
  · skip
    exact (TX "java/lang/IllegalArgumentException" r h ⟨⟨rf_in_lt q2, rfl⟩, rfl, rfl⟩ (0, 0) 10 [(0, .int n), (1, .int (nI lo)), (2, .int (nI hi))] (Nat.le_of_ble_eq_true rfl) (Nat.le_of_ble_eq_true rfl)).2 (Nat.le_of_ble_eq_true rfl) (Nat.le_of_ble_eq_true rfl) ⟨rfl, 122, 499, 126, 29, 17, "this number is none", ex_ok_IA, ⟨List.mem_of_getElem? (i := 30) rfl, by decide⟩, dX11_needNumber_10, dX11_needNumber_13, Or.inr ⟨dX11_needNumber_14, rfl⟩, dX11_needNumber_17, dX11_needNumber_20⟩ [] (by decide)
  · skip
    refine am_iload_n (pc := 5) C dX11_needNumber_5 rfl ?_
    refine am_iload_n (pc := 6) C dX11_needNumber_6 rfl ?_
    refine am_icmp_le (pc := 7) (tgt := 21) C dX11_needNumber_7 (by decide) (fun q7 => ?_) (fun q7 => ?_)
    · skip
      exact am_vret T dX11_needNumber_21 rfl (Nat.le_of_ble_eq_true rfl) (Nat.le_of_ble_eq_true rfl) ⟨rf_in_ok q2 (Int32.not_lt.mpr q7), rfl, rfl, rfl⟩
    · skip
      exact (TX "java/lang/IllegalArgumentException" r h ⟨⟨rf_in_gt (Int32.not_le.mp q7), rfl⟩, rfl, rfl⟩ (0, 0) 10 [(0, .int n), (1, .int (nI lo)), (2, .int (nI hi))] (Nat.le_of_ble_eq_true rfl) (Nat.le_of_ble_eq_true rfl)).2 (Nat.le_of_ble_eq_true rfl) (Nat.le_of_ble_eq_true rfl) ⟨rfl, 122, 499, 126, 29, 17, "this number is none", ex_ok_IA, ⟨List.mem_of_getElem? (i := 30) rfl, by decide⟩, dX11_needNumber_10, dX11_needNumber_13, Or.inr ⟨dX11_needNumber_14, rfl⟩, dX11_needNumber_17, dX11_needNumber_20⟩ [] (by decide)

set_option maxHeartbeats 400000 in
set_option maxRecDepth 100000 in
theorem c_X11_needTwo {ad : Nat → Nat} {r : am_R} (hR : am_rs r) {h : am_H} (a : Int32) (b : Int32) (w : rf_W) (hV : rf_I w) (hLo : cl_Lo (h) 4 w)  : am_XM mX11_needTwo 7 3 18 [.ref 0, .int a, .int b] (am_VV ad) r h (fun v r9 h9 => (rf_okN a (rf_S w) = true ∧ rf_okN b (rf_S w) = true ∧ decide (a = b) = false) ∧ v = none ∧ r = r9 ∧ h = h9) (fun E r9 h9 => ((rf_okN a (rf_S w) = false ∧ E = "java/lang/IndexOutOfBoundsException") ∨ (rf_okN a (rf_S w) = true ∧ rf_okN b (rf_S w) = false ∧ E = "java/lang/IndexOutOfBoundsException") ∨ (rf_okN a (rf_S w) = true ∧ rf_okN b (rf_S w) = true ∧ decide (a = b) = true ∧ E = "java/lang/IllegalArgumentException")) ∧ r = r9 ∧ h = h9) := by
  refine am_XM.of (by decide +kernel) (Nat.le_of_ble_eq_true rfl) (by decide) (fun X C T TX => ?_)
  show am_G X (am_VV ad) (0, 0) 0 [(0, .ref 0), (1, .int a), (2, .int b)] [] r h
  have hM9 : rf_M w < 17 := hV.1.1.2
  have hS9 : rf_S w < 11 := hV.1.2.1.2
  have hO9 : rf_O w < 11 := hV.1.2.2.2
  refine am_aload_n (pc := 0) C dX11_needTwo_0 rfl ?_
  refine am_iload_n (pc := 1) C dX11_needTwo_1 rfl ?_
  refine am_callVXc (Y := mX11_needSoldier) (pc := 2) (st := []) (As := [.int a]) (cz := (1, 6)) C dX11_needTwo_2 k11_194 v_X11_needSoldier rfl rfl bn_0 sh_0 ⟨by decide, rfl⟩ (by decide) (Nat.le_of_ble_eq_true rfl) (Nat.le_of_ble_eq_true rfl) (Nat.le_of_ble_eq_true rfl) (c_X11_needSoldier hR a w hV hLo) rfl (fun E9 r9 h9 hx9 => ?_) (fun v9 r9 h9 hq9 => ?_)
  · obtain ⟨hx9, rfl, rfl⟩ := hx9
    obtain ⟨f2_0, rfl⟩ := hx9
    · exact (TX "java/lang/IndexOutOfBoundsException" r h ⟨Or.inl ⟨f2_0, rfl⟩, rfl, rfl⟩ (1, 6) 2 [(0, .ref 0), (1, .int a), (2, .int b)] (Nat.le_of_ble_eq_true rfl) (Nat.le_of_ble_eq_true rfl)).1
  obtain ⟨f2_0, rfl, rfl, rfl⟩ := hq9
  show am_G X (am_VV ad) (1, 6) 5 [(0, .ref 0), (1, .int a), (2, .int b)] [] r h
  refine am_aload_n (pc := 5) C dX11_needTwo_5 rfl ?_
  refine am_iload_n (pc := 6) C dX11_needTwo_6 rfl ?_
  refine am_callVXc (Y := mX11_needSoldier) (pc := 7) (st := []) (As := [.int b]) (cz := (2, 12)) C dX11_needTwo_7 k11_194 v_X11_needSoldier rfl rfl bn_0 sh_0 ⟨by decide, rfl⟩ (by decide) (Nat.le_of_ble_eq_true rfl) (Nat.le_of_ble_eq_true rfl) (Nat.le_of_ble_eq_true rfl) (c_X11_needSoldier hR b w hV hLo) rfl (fun E9 r9 h9 hx9 => ?_) (fun v9 r9 h9 hq9 => ?_)
  · obtain ⟨hx9, rfl, rfl⟩ := hx9
    obtain ⟨f7_0, rfl⟩ := hx9
    · exact (TX "java/lang/IndexOutOfBoundsException" r h ⟨Or.inr (Or.inl ⟨f2_0, f7_0, rfl⟩), rfl, rfl⟩ (2, 12) 7 [(0, .ref 0), (1, .int a), (2, .int b)] (Nat.le_of_ble_eq_true rfl) (Nat.le_of_ble_eq_true rfl)).1
  obtain ⟨f7_0, rfl, rfl, rfl⟩ := hq9
  show am_G X (am_VV ad) (2, 12) 10 [(0, .ref 0), (1, .int a), (2, .int b)] [] r h
  refine am_iload_n (pc := 10) C dX11_needTwo_10 rfl ?_
  refine am_iload_n (pc := 11) C dX11_needTwo_11 rfl ?_
  refine am_callSXc (Y := mX11_needUnlike) (pc := 12) (st := []) (As := [.int a, .int b]) (cz := (3, 18)) C dX11_needTwo_12 k11_301 v_X11_needUnlike rfl rfl (by decide) (Nat.le_of_ble_eq_true rfl) (Nat.le_of_ble_eq_true rfl) (Nat.le_of_ble_eq_true rfl) (c_X11_needUnlike hR a b) rfl (fun E9 r9 h9 hx9 => ?_) (fun v9 r9 h9 hq9 => ?_)
  · obtain ⟨hx9, rfl, rfl⟩ := hx9
    obtain ⟨f12_0, rfl⟩ := hx9
    · exact (TX "java/lang/IllegalArgumentException" r h ⟨Or.inr (Or.inr ⟨f2_0, f7_0, f12_0, rfl⟩), rfl, rfl⟩ (3, 18) 12 [(0, .ref 0), (1, .int a), (2, .int b)] (Nat.le_of_ble_eq_true rfl) (Nat.le_of_ble_eq_true rfl)).1
  obtain ⟨f12_0, rfl, rfl, rfl⟩ := hq9
  show am_G X (am_VV ad) (3, 18) 15 [(0, .ref 0), (1, .int a), (2, .int b)] [] r h
  exact am_vret T dX11_needTwo_15 rfl (Nat.le_of_ble_eq_true rfl) (Nat.le_of_ble_eq_true rfl) ⟨⟨f2_0, f7_0, f12_0⟩, rfl, rfl, rfl⟩

set_option maxHeartbeats 400000 in
set_option maxRecDepth 100000 in
theorem c_X11_memory {ad : Nat → Nat} {r : am_R} (hR : am_rs r) {h : am_H} (m : Int32) (what : Int32) (w : rf_W) (hV : rf_I w) (hLo : cl_Lo (h) 4 w) (hSc : cl_Sc (h) 25 w)  : am_XM mX11_memory 7 2 12 [.ref 0, .int m, .int what] (am_VV ad) r h (ex_ret (rf_c_memory w m what) (rf_a_memory w m what) (fun r9 h9 => r9 = r ∧ cl_k h h9)) (ex_thr ["java/lang/IndexOutOfBoundsException", "java/util/NoSuchElementException"] (rf_c_memory w m what) (fun r9 h9 => r9 = r ∧ cl_k h h9)) := by
  refine am_XM.of (by decide +kernel) (Nat.le_of_ble_eq_true rfl) (by decide) (fun X C T TX => ?_)
  show am_G X (am_VV ad) (0, 0) 0 [(0, .ref 0), (1, .int m), (2, .int what)] [] r h
  have hM9 : rf_M w < 17 := hV.1.1.2
  have hS9 : rf_S w < 11 := hV.1.2.1.2
  have hO9 : rf_O w < 11 := hV.1.2.2.2
  refine am_aload_n (pc := 0) C dX11_memory_0 rfl ?_
  refine am_iload_n (pc := 1) C dX11_memory_1 rfl ?_
  refine am_callVXc (Y := mX11_needMemory) (pc := 2) (st := []) (As := [.int m]) (cz := (1, 6)) C dX11_memory_2 k11_150 v_X11_needMemory rfl rfl bn_0 sh_0 ⟨by decide, rfl⟩ (by decide) (Nat.le_of_ble_eq_true rfl) (Nat.le_of_ble_eq_true rfl) (Nat.le_of_ble_eq_true rfl) (c_X11_needMemory hR m w hV hLo) rfl (fun E9 r9 h9 hx9 => ?_) (fun v9 r9 h9 hq9 => ?_)
  · obtain ⟨hx9, rfl, rfl⟩ := hx9
    obtain ⟨f2_0, rfl⟩ := hx9
    · exact (TX "java/lang/IndexOutOfBoundsException" r h ⟨0, (show rf_c_memory w m what = 1 from by simp only [rf_c_memory, rf_cb, f2_0, Bool.not_true, Bool.not_false, cond_true, cond_false]), rfl, ⟨rfl, (fun _ _ => rfl)⟩⟩ (1, 6) 2 [(0, .ref 0), (1, .int m), (2, .int what)] (Nat.le_of_ble_eq_true rfl) (Nat.le_of_ble_eq_true rfl)).1
  obtain ⟨f2_0, rfl, rfl, rfl⟩ := hq9
  show am_G X (am_VV ad) (1, 6) 5 [(0, .ref 0), (1, .int m), (2, .int what)] [] r h
  have nA := rf_okN_n (show rf_M w < 1073741824 by omega) f2_0
  have mA : rf_nat m < rf_M w := nA.2
  refine am_lsv (ls' := [(0, .ref 0), (1, .int (nI (rf_nat m))), (2, .int what)]) (congrArg (fun z9 : Int32 => ([(0, .ref 0), (1, Value.int z9), (2, .int what)] : List (Nat × Value))) (show m = (nI (rf_nat m)) from nA.1)) ?_
  refine am_iload_n (pc := 5) C dX11_memory_5 rfl ?_
  by_cases e6_0 : what = nI 0
  · refine am_tableIn (pc := 6) (tgt := 52) C dX11_memory_6 (by rw [e6_0]; decide) (by rw [e6_0]; decide) (by rw [e6_0]; rfl) (by decide) ?_
    refine am_aload_n (pc := 52) C dX11_memory_52 rfl ?_
    refine am_getR (pc := 53) (j := 3) C dX11_memory_53 f11_27 bn_0 sh_0 (rf_0_1 hR) ?_
    refine am_getR (pc := 56) (j := 4) C dX11_memory_56 f11_31 bn_3 sh_3 (rf_3_0 hR) ?_
    refine am_getR (pc := 59) (j := 5) C dX11_memory_59 f11_153 bn_4 sh_4 (rf_4_4 hR) ?_
    refine am_iload_n (pc := 62) C dX11_memory_62 rfl ?_
    refine am_callSi (Y := mX11_pick) (pc := 63) (st := []) (As := [.ref 5, .int (nI (rf_nat m))]) (x := ((h 5) (rf_nat m))) (h2 := h) C dX11_memory_63 k11_157 v_X11_pick rfl rfl (by decide) (Nat.le_of_ble_eq_true rfl) (Nat.le_of_ble_eq_true rfl) (Nat.le_of_ble_eq_true rfl) (c_X11_pick 5 (rf_nat m) 16 bn_5 sh_5 (show rf_nat m < 16 from by omega) (by decide)) ?_
    refine am_top (show ((h 5) (rf_nat m)) = (rf_mem w (rf_nat m) 0) from (hLo.2.1 (rf_nat m) (by omega)).1) ?_
    have K9 : rf_c_memory w m what = 0 := (show rf_c_memory w m what = 0 from by simp only [rf_c_memory, rf_cb, f2_0, (show rf_in what (nI 0) (nI 7) = true from by rw [e6_0]; rfl), Bool.not_true, Bool.not_false, cond_true, cond_false])
    have A9 : rf_a_memory w m what = (rf_mem w (rf_nat m) 0) := (by rw [rf_a_memory, e6_0, rf_nat_nI (by decide)]; try rfl)
    exact am_iret T dX11_memory_66 rfl rfl (Nat.le_of_ble_eq_true rfl) (Nat.le_of_ble_eq_true rfl) ⟨K9, by rw [A9], ⟨rfl, (fun _ _ => rfl)⟩⟩
  by_cases e6_1 : what = nI 1
  · refine am_tableIn (pc := 6) (tgt := 67) C dX11_memory_6 (by rw [e6_1]; decide) (by rw [e6_1]; decide) (by rw [e6_1]; rfl) (by decide) ?_
    refine am_aload_n (pc := 67) C dX11_memory_67 rfl ?_
    refine am_getR (pc := 68) (j := 3) C dX11_memory_68 f11_27 bn_0 sh_0 (rf_0_1 hR) ?_
    refine am_getR (pc := 71) (j := 4) C dX11_memory_71 f11_31 bn_3 sh_3 (rf_3_0 hR) ?_
    refine am_getR (pc := 74) (j := 6) C dX11_memory_74 f11_161 bn_4 sh_4 (rf_4_5 hR) ?_
    refine am_iload_n (pc := 77) C dX11_memory_77 rfl ?_
    refine am_callSi (Y := mX11_pick) (pc := 78) (st := []) (As := [.ref 6, .int (nI (rf_nat m))]) (x := ((h 6) (rf_nat m))) (h2 := h) C dX11_memory_78 k11_157 v_X11_pick rfl rfl (by decide) (Nat.le_of_ble_eq_true rfl) (Nat.le_of_ble_eq_true rfl) (Nat.le_of_ble_eq_true rfl) (c_X11_pick 6 (rf_nat m) 16 bn_6 sh_6 (show rf_nat m < 16 from by omega) (by decide)) ?_
    refine am_top (show ((h 6) (rf_nat m)) = (rf_mem w (rf_nat m) 1) from (hLo.2.1 (rf_nat m) (by omega)).2.1) ?_
    have K9 : rf_c_memory w m what = 0 := (show rf_c_memory w m what = 0 from by simp only [rf_c_memory, rf_cb, f2_0, (show rf_in what (nI 0) (nI 7) = true from by rw [e6_1]; rfl), Bool.not_true, Bool.not_false, cond_true, cond_false])
    have A9 : rf_a_memory w m what = (rf_mem w (rf_nat m) 1) := (by rw [rf_a_memory, e6_1, rf_nat_nI (by decide)]; try rfl)
    exact am_iret T dX11_memory_81 rfl rfl (Nat.le_of_ble_eq_true rfl) (Nat.le_of_ble_eq_true rfl) ⟨K9, by rw [A9], ⟨rfl, (fun _ _ => rfl)⟩⟩
  by_cases e6_2 : what = nI 2
  · refine am_tableIn (pc := 6) (tgt := 82) C dX11_memory_6 (by rw [e6_2]; decide) (by rw [e6_2]; decide) (by rw [e6_2]; rfl) (by decide) ?_
    refine am_aload_n (pc := 82) C dX11_memory_82 rfl ?_
    refine am_getR (pc := 83) (j := 3) C dX11_memory_83 f11_27 bn_0 sh_0 (rf_0_1 hR) ?_
    refine am_getR (pc := 86) (j := 4) C dX11_memory_86 f11_31 bn_3 sh_3 (rf_3_0 hR) ?_
    refine am_getR (pc := 89) (j := 8) C dX11_memory_89 f11_164 bn_4 sh_4 (rf_4_7 hR) ?_
    refine am_iload_n (pc := 92) C dX11_memory_92 rfl ?_
    refine am_callSi (Y := mX11_pick) (pc := 93) (st := []) (As := [.ref 8, .int (nI (rf_nat m))]) (x := ((h 8) (rf_nat m))) (h2 := h) C dX11_memory_93 k11_157 v_X11_pick rfl rfl (by decide) (Nat.le_of_ble_eq_true rfl) (Nat.le_of_ble_eq_true rfl) (Nat.le_of_ble_eq_true rfl) (c_X11_pick 8 (rf_nat m) 16 bn_8 sh_8 (show rf_nat m < 16 from by omega) (by decide)) ?_
    refine am_top (show ((h 8) (rf_nat m)) = (rf_rests w (rf_nat m)) from (hLo.2.1 (rf_nat m) (by omega)).2.2.2.1) ?_
    have K9 : rf_c_memory w m what = 0 := (show rf_c_memory w m what = 0 from by simp only [rf_c_memory, rf_cb, f2_0, (show rf_in what (nI 0) (nI 7) = true from by rw [e6_2]; rfl), Bool.not_true, Bool.not_false, cond_true, cond_false])
    have A9 : rf_a_memory w m what = (rf_rests w (rf_nat m)) := (by rw [rf_a_memory, e6_2, rf_nat_nI (by decide)]; try rfl)
    exact am_iret T dX11_memory_96 rfl rfl (Nat.le_of_ble_eq_true rfl) (Nat.le_of_ble_eq_true rfl) ⟨K9, by rw [A9], ⟨rfl, (fun _ _ => rfl)⟩⟩
  by_cases e6_3 : what = nI 3
  · refine am_tableIn (pc := 6) (tgt := 97) C dX11_memory_6 (by rw [e6_3]; decide) (by rw [e6_3]; decide) (by rw [e6_3]; rfl) (by decide) ?_
    refine am_aload_n (pc := 97) C dX11_memory_97 rfl ?_
    refine am_getR (pc := 98) (j := 3) C dX11_memory_98 f11_27 bn_0 sh_0 (rf_0_1 hR) ?_
    refine am_getR (pc := 101) (j := 4) C dX11_memory_101 f11_31 bn_3 sh_3 (rf_3_0 hR) ?_
    refine am_getR (pc := 104) (j := 7) C dX11_memory_104 f11_167 bn_4 sh_4 (rf_4_6 hR) ?_
    refine am_iload_n (pc := 107) C dX11_memory_107 rfl ?_
    refine am_callSi (Y := mX11_pick) (pc := 108) (st := []) (As := [.ref 7, .int (nI (rf_nat m))]) (x := ((h 7) (rf_nat m))) (h2 := h) C dX11_memory_108 k11_157 v_X11_pick rfl rfl (by decide) (Nat.le_of_ble_eq_true rfl) (Nat.le_of_ble_eq_true rfl) (Nat.le_of_ble_eq_true rfl) (c_X11_pick 7 (rf_nat m) 16 bn_7 sh_7 (show rf_nat m < 16 from by omega) (by decide)) ?_
    refine am_top (show ((h 7) (rf_nat m)) = (rf_bears w (rf_nat m)) from (hLo.2.1 (rf_nat m) (by omega)).2.2.1) ?_
    have K9 : rf_c_memory w m what = 0 := (show rf_c_memory w m what = 0 from by simp only [rf_c_memory, rf_cb, f2_0, (show rf_in what (nI 0) (nI 7) = true from by rw [e6_3]; rfl), Bool.not_true, Bool.not_false, cond_true, cond_false])
    have A9 : rf_a_memory w m what = (rf_bears w (rf_nat m)) := (by rw [rf_a_memory, e6_3, rf_nat_nI (by decide)]; try rfl)
    exact am_iret T dX11_memory_111 rfl rfl (Nat.le_of_ble_eq_true rfl) (Nat.le_of_ble_eq_true rfl) ⟨K9, by rw [A9], ⟨rfl, (fun _ _ => rfl)⟩⟩
  by_cases e6_4 : what = nI 4
  · refine am_tableIn (pc := 6) (tgt := 112) C dX11_memory_6 (by rw [e6_4]; decide) (by rw [e6_4]; decide) (by rw [e6_4]; rfl) (by decide) ?_
    refine am_aload_n (pc := 112) C dX11_memory_112 rfl ?_
    refine am_getR (pc := 113) (j := 3) C dX11_memory_113 f11_27 bn_0 sh_0 (rf_0_1 hR) ?_
    refine am_iload_n (pc := 116) C dX11_memory_116 rfl ?_
    refine am_callVi (Y := mX10_whoKnow) (pc := 117) (st := []) (As := [.int (nI (rf_nat m))]) (x := (rf_knowers w (rf_nat m))) (h2 := h) C dX11_memory_117 k11_170 v_X10_whoKnow rfl rfl bn_3 sh_3 ⟨by decide, rfl⟩ (by decide) (Nat.le_of_ble_eq_true rfl) (Nat.le_of_ble_eq_true rfl) (Nat.le_of_ble_eq_true rfl) (c_X10_whoKnow hR (rf_nat m) w hV hLo hSc (show (rf_nat m) < 32 from by omega)) ?_
    have K9 : rf_c_memory w m what = 0 := (show rf_c_memory w m what = 0 from by simp only [rf_c_memory, rf_cb, f2_0, (show rf_in what (nI 0) (nI 7) = true from by rw [e6_4]; rfl), Bool.not_true, Bool.not_false, cond_true, cond_false])
    have A9 : rf_a_memory w m what = (rf_knowers w (rf_nat m)) := (by rw [rf_a_memory, e6_4, rf_nat_nI (by decide)]; try rfl)
    exact am_iret T dX11_memory_120 rfl rfl (Nat.le_of_ble_eq_true rfl) (Nat.le_of_ble_eq_true rfl) ⟨K9, by rw [A9], ⟨rfl, (fun _ _ => rfl)⟩⟩
  by_cases e6_5 : what = nI 5
  · refine am_tableIn (pc := 6) (tgt := 121) C dX11_memory_6 (by rw [e6_5]; decide) (by rw [e6_5]; decide) (by rw [e6_5]; rfl) (by decide) ?_
    refine am_aload_n (pc := 121) C dX11_memory_121 rfl ?_
    refine am_getR (pc := 122) (j := 3) C dX11_memory_122 f11_27 bn_0 sh_0 (rf_0_1 hR) ?_
    refine am_iload_n (pc := 125) C dX11_memory_125 rfl ?_
    refine am_callVi (Y := mX10_whoUse) (pc := 126) (st := []) (As := [.int (nI (rf_nat m))]) (x := (rf_users w (rf_nat m))) (h2 := h) C dX11_memory_126 k11_174 v_X10_whoUse rfl rfl bn_3 sh_3 ⟨by decide, rfl⟩ (by decide) (Nat.le_of_ble_eq_true rfl) (Nat.le_of_ble_eq_true rfl) (Nat.le_of_ble_eq_true rfl) (c_X10_whoUse hR (rf_nat m) w hV hLo hSc (show (rf_nat m) < 32 from by omega)) ?_
    have K9 : rf_c_memory w m what = 0 := (show rf_c_memory w m what = 0 from by simp only [rf_c_memory, rf_cb, f2_0, (show rf_in what (nI 0) (nI 7) = true from by rw [e6_5]; rfl), Bool.not_true, Bool.not_false, cond_true, cond_false])
    have A9 : rf_a_memory w m what = (rf_users w (rf_nat m)) := (by rw [rf_a_memory, e6_5, rf_nat_nI (by decide)]; try rfl)
    exact am_iret T dX11_memory_129 rfl rfl (Nat.le_of_ble_eq_true rfl) (Nat.le_of_ble_eq_true rfl) ⟨K9, by rw [A9], ⟨rfl, (fun _ _ => rfl)⟩⟩
  by_cases e6_6 : what = nI 6
  · refine am_tableIn (pc := 6) (tgt := 130) C dX11_memory_6 (by rw [e6_6]; decide) (by rw [e6_6]; decide) (by rw [e6_6]; rfl) (by decide) ?_
    refine am_aload_n (pc := 130) C dX11_memory_130 rfl ?_
    refine am_getR (pc := 131) (j := 3) C dX11_memory_131 f11_27 bn_0 sh_0 (rf_0_1 hR) ?_
    refine am_getR (pc := 134) (j := 25) C dX11_memory_134 f11_177 bn_3 sh_3 (rf_3_2 hR) ?_
    refine am_iload_n (pc := 137) C dX11_memory_137 rfl ?_
    refine am_callVi (Y := mX5_timesInField) (pc := 138) (st := []) (As := [.int (nI (rf_nat m))]) (x := (nI (rf_inField w (nI (rf_nat m))))) (h2 := h) C dX11_memory_138 k11_181 v_X5_timesInField rfl rfl bn_25 sh_25 ⟨by decide, rfl⟩ (by decide) (Nat.le_of_ble_eq_true rfl) (Nat.le_of_ble_eq_true rfl) (Nat.le_of_ble_eq_true rfl) (c_X5_timesInField hR (nI (rf_nat m)) w hV hSc) ?_
    have K9 : rf_c_memory w m what = 0 := (show rf_c_memory w m what = 0 from by simp only [rf_c_memory, rf_cb, f2_0, (show rf_in what (nI 0) (nI 7) = true from by rw [e6_6]; rfl), Bool.not_true, Bool.not_false, cond_true, cond_false])
    have A9 : rf_a_memory w m what = (nI (rf_inField w (nI (rf_nat m)))) := (by rw [rf_a_memory, e6_6, rf_nat_nI (by decide)]; try rfl)
    exact am_iret T dX11_memory_141 rfl rfl (Nat.le_of_ble_eq_true rfl) (Nat.le_of_ble_eq_true rfl) ⟨K9, by rw [A9], ⟨rfl, (fun _ _ => rfl)⟩⟩
  by_cases e6_7 : what = nI 7
  · refine am_tableIn (pc := 6) (tgt := 142) C dX11_memory_6 (by rw [e6_7]; decide) (by rw [e6_7]; decide) (by rw [e6_7]; rfl) (by decide) ?_
    refine am_aload_n (pc := 142) C dX11_memory_142 rfl ?_
    refine am_getR (pc := 143) (j := 3) C dX11_memory_143 f11_27 bn_0 sh_0 (rf_0_1 hR) ?_
    refine am_getR (pc := 146) (j := 4) C dX11_memory_146 f11_31 bn_3 sh_3 (rf_3_0 hR) ?_
    refine am_getR (pc := 149) (j := 9) C dX11_memory_149 f11_186 bn_4 sh_4 (rf_4_8 hR) ?_
    refine am_iload_n (pc := 152) C dX11_memory_152 rfl ?_
    refine am_callSi (Y := mX11_pick) (pc := 153) (st := []) (As := [.ref 9, .int (nI (rf_nat m))]) (x := ((h 9) (rf_nat m))) (h2 := h) C dX11_memory_153 k11_157 v_X11_pick rfl rfl (by decide) (Nat.le_of_ble_eq_true rfl) (Nat.le_of_ble_eq_true rfl) (Nat.le_of_ble_eq_true rfl) (c_X11_pick 9 (rf_nat m) 16 bn_9 sh_9 (show rf_nat m < 16 from by omega) (by decide)) ?_
    refine am_top (show ((h 9) (rf_nat m)) = (rf_mem w (rf_nat m) 2) from (hLo.2.1 (rf_nat m) (by omega)).2.2.2.2) ?_
    have K9 : rf_c_memory w m what = 0 := (show rf_c_memory w m what = 0 from by simp only [rf_c_memory, rf_cb, f2_0, (show rf_in what (nI 0) (nI 7) = true from by rw [e6_7]; rfl), Bool.not_true, Bool.not_false, cond_true, cond_false])
    have A9 : rf_a_memory w m what = (rf_mem w (rf_nat m) 2) := (by rw [rf_a_memory, e6_7, rf_nat_nI (by decide)]; try rfl)
    exact am_iret T dX11_memory_156 rfl rfl (Nat.le_of_ble_eq_true rfl) (Nat.le_of_ble_eq_true rfl) ⟨K9, by rw [A9], ⟨rfl, (fun _ _ => rfl)⟩⟩
  refine am_tableOut (pc := 6) (tgt := 157) C dX11_memory_6 (am_tabD 0 7 (by decide) (fun k h1 h2 => by rcases (show k = 0 ∨ k = 1 ∨ k = 2 ∨ k = 3 ∨ k = 4 ∨ k = 5 ∨ k = 6 ∨ k = 7 by omega) with rfl | rfl | rfl | rfl | rfl | rfl | rfl | rfl <;> assumption)) (by decide) ?_
  exact (TX "java/util/NoSuchElementException" r h ⟨1, (show rf_c_memory w m what = 2 from by simp only [rf_c_memory, rf_cb, f2_0, (show rf_in what (nI 0) (nI 7) = false from ex_inD (by decide) (fun k hk => by rcases (show k = 0 ∨ k = 1 ∨ k = 2 ∨ k = 3 ∨ k = 4 ∨ k = 5 ∨ k = 6 ∨ k = 7 by omega) with rfl | rfl | rfl | rfl | rfl | rfl | rfl | rfl <;> assumption)), Bool.not_true, Bool.not_false, cond_true, cond_false]), rfl, ⟨rfl, (fun _ _ => rfl)⟩⟩ (1, 6) 157 [(0, .ref 0), (1, .int (nI (rf_nat m))), (2, .int what)] (Nat.le_of_ble_eq_true rfl) (Nat.le_of_ble_eq_true rfl)).2 (Nat.le_of_ble_eq_true rfl) (Nat.le_of_ble_eq_true rfl) ⟨rfl, 189, 191, 193, 26, 163, "a memory has no such thing", ex_ok_NS, ⟨List.mem_of_getElem? (i := 27) rfl, by decide⟩, dX11_memory_157, dX11_memory_160, Or.inl ⟨dX11_memory_161, rfl⟩, dX11_memory_163, dX11_memory_166⟩ [] (by decide)

set_option maxHeartbeats 400000 in
set_option maxRecDepth 100000 in
theorem c_X11_soldier {ad : Nat → Nat} {r : am_R} (hR : am_rs r) {h : am_H} (s : Int32) (what : Int32) (w : rf_W) (hV : rf_I w) (hLo : cl_Lo (h) 4 w) (hSc : cl_Sc (h) 25 w)  : am_XM mX11_soldier 7 2 12 [.ref 0, .int s, .int what] (am_VV ad) r h (ex_ret (rf_c_soldier w s what) (rf_a_soldier w s what) (fun r9 h9 => r9 = r ∧ cl_k h h9)) (ex_thr ["java/lang/IndexOutOfBoundsException", "java/util/NoSuchElementException"] (rf_c_soldier w s what) (fun r9 h9 => r9 = r ∧ cl_k h h9)) := by
  refine am_XM.of (by decide +kernel) (Nat.le_of_ble_eq_true rfl) (by decide) (fun X C T TX => ?_)
  show am_G X (am_VV ad) (0, 0) 0 [(0, .ref 0), (1, .int s), (2, .int what)] [] r h
  have hM9 : rf_M w < 17 := hV.1.1.2
  have hS9 : rf_S w < 11 := hV.1.2.1.2
  have hO9 : rf_O w < 11 := hV.1.2.2.2
  refine am_aload_n (pc := 0) C dX11_soldier_0 rfl ?_
  refine am_iload_n (pc := 1) C dX11_soldier_1 rfl ?_
  refine am_callVXc (Y := mX11_needSoldier) (pc := 2) (st := []) (As := [.int s]) (cz := (1, 6)) C dX11_soldier_2 k11_194 v_X11_needSoldier rfl rfl bn_0 sh_0 ⟨by decide, rfl⟩ (by decide) (Nat.le_of_ble_eq_true rfl) (Nat.le_of_ble_eq_true rfl) (Nat.le_of_ble_eq_true rfl) (c_X11_needSoldier hR s w hV hLo) rfl (fun E9 r9 h9 hx9 => ?_) (fun v9 r9 h9 hq9 => ?_)
  · obtain ⟨hx9, rfl, rfl⟩ := hx9
    obtain ⟨f2_0, rfl⟩ := hx9
    · exact (TX "java/lang/IndexOutOfBoundsException" r h ⟨0, (show rf_c_soldier w s what = 1 from by simp only [rf_c_soldier, rf_cb, f2_0, Bool.not_true, Bool.not_false, cond_true, cond_false]), rfl, ⟨rfl, (fun _ _ => rfl)⟩⟩ (1, 6) 2 [(0, .ref 0), (1, .int s), (2, .int what)] (Nat.le_of_ble_eq_true rfl) (Nat.le_of_ble_eq_true rfl)).1
  obtain ⟨f2_0, rfl, rfl, rfl⟩ := hq9
  show am_G X (am_VV ad) (1, 6) 5 [(0, .ref 0), (1, .int s), (2, .int what)] [] r h
  have nA := rf_okN_n (show rf_S w < 1073741824 by omega) f2_0
  have mA : rf_nat s < rf_S w := nA.2
  have Is9 := hV.2.1 (rf_nat s) mA
  refine am_lsv (ls' := [(0, .ref 0), (1, .int (nI (rf_nat s))), (2, .int what)]) (congrArg (fun z9 : Int32 => ([(0, .ref 0), (1, Value.int z9), (2, .int what)] : List (Nat × Value))) (show s = (nI (rf_nat s)) from nA.1)) ?_
  refine am_iload_n (pc := 5) C dX11_soldier_5 rfl ?_
  by_cases e6_0 : what = nI 0
  · refine am_tableIn (pc := 6) (tgt := 56) C dX11_soldier_6 (by rw [e6_0]; decide) (by rw [e6_0]; decide) (by rw [e6_0]; rfl) (by decide) ?_
    refine am_aload_n (pc := 56) C dX11_soldier_56 rfl ?_
    refine am_getR (pc := 57) (j := 3) C dX11_soldier_57 f11_27 bn_0 sh_0 (rf_0_1 hR) ?_
    refine am_getR (pc := 60) (j := 4) C dX11_soldier_60 f11_31 bn_3 sh_3 (rf_3_0 hR) ?_
    refine am_getR (pc := 63) (j := 10) C dX11_soldier_63 f11_197 bn_4 sh_4 (rf_4_9 hR) ?_
    refine am_iload_n (pc := 66) C dX11_soldier_66 rfl ?_
    refine am_callSi (Y := mX11_pick) (pc := 67) (st := []) (As := [.ref 10, .int (nI (rf_nat s))]) (x := ((h 10) (rf_nat s))) (h2 := h) C dX11_soldier_67 k11_157 v_X11_pick rfl rfl (by decide) (Nat.le_of_ble_eq_true rfl) (Nat.le_of_ble_eq_true rfl) (Nat.le_of_ble_eq_true rfl) (c_X11_pick 10 (rf_nat s) 10 bn_10 sh_10 (show rf_nat s < 10 from by omega) (by decide)) ?_
    refine am_top (show ((h 10) (rf_nat s)) = (rf_of w (rf_nat s) 0) from (hLo.2.2.1 (rf_nat s) (by omega)).1) ?_
    have K9 : rf_c_soldier w s what = 0 := (show rf_c_soldier w s what = 0 from by simp only [rf_c_soldier, rf_cb, f2_0, (show rf_in what (nI 0) (nI 8) = true from by rw [e6_0]; rfl), Bool.not_true, Bool.not_false, cond_true, cond_false])
    have A9 : rf_a_soldier w s what = (rf_of w (rf_nat s) 0) := (by rw [rf_a_soldier, e6_0, rf_nat_nI (by decide)]; try rfl)
    exact am_iret T dX11_soldier_70 rfl rfl (Nat.le_of_ble_eq_true rfl) (Nat.le_of_ble_eq_true rfl) ⟨K9, by rw [A9], ⟨rfl, (fun _ _ => rfl)⟩⟩
  by_cases e6_1 : what = nI 1
  · refine am_tableIn (pc := 6) (tgt := 71) C dX11_soldier_6 (by rw [e6_1]; decide) (by rw [e6_1]; decide) (by rw [e6_1]; rfl) (by decide) ?_
    refine am_aload_n (pc := 71) C dX11_soldier_71 rfl ?_
    refine am_getR (pc := 72) (j := 3) C dX11_soldier_72 f11_27 bn_0 sh_0 (rf_0_1 hR) ?_
    refine am_getR (pc := 75) (j := 25) C dX11_soldier_75 f11_177 bn_3 sh_3 (rf_3_2 hR) ?_
    refine am_getR (pc := 78) (j := 27) C dX11_soldier_78 f11_200 bn_25 sh_25 (rf_25_6 hR) ?_
    refine am_iload_n (pc := 81) C dX11_soldier_81 rfl ?_
    refine am_callSi (Y := mX11_pick) (pc := 82) (st := []) (As := [.ref 27, .int (nI (rf_nat s))]) (x := ((h 27) (rf_nat s))) (h2 := h) C dX11_soldier_82 k11_157 v_X11_pick rfl rfl (by decide) (Nat.le_of_ble_eq_true rfl) (Nat.le_of_ble_eq_true rfl) (Nat.le_of_ble_eq_true rfl) (c_X11_pick 27 (rf_nat s) 10 bn_27 sh_27 (show rf_nat s < 10 from by omega) (by decide)) ?_
    refine am_top (show ((h 27) (rf_nat s)) = (rf_pl w (rf_nat s)) from (hSc.2.1 (rf_nat s) (by omega)).2.1) ?_
    have K9 : rf_c_soldier w s what = 0 := (show rf_c_soldier w s what = 0 from by simp only [rf_c_soldier, rf_cb, f2_0, (show rf_in what (nI 0) (nI 8) = true from by rw [e6_1]; rfl), Bool.not_true, Bool.not_false, cond_true, cond_false])
    have A9 : rf_a_soldier w s what = (rf_pl w (rf_nat s)) := (by rw [rf_a_soldier, e6_1, rf_nat_nI (by decide)]; try rfl)
    exact am_iret T dX11_soldier_85 rfl rfl (Nat.le_of_ble_eq_true rfl) (Nat.le_of_ble_eq_true rfl) ⟨K9, by rw [A9], ⟨rfl, (fun _ _ => rfl)⟩⟩
  by_cases e6_2 : what = nI 2
  · refine am_tableIn (pc := 6) (tgt := 86) C dX11_soldier_6 (by rw [e6_2]; decide) (by rw [e6_2]; decide) (by rw [e6_2]; rfl) (by decide) ?_
    refine am_aload_n (pc := 86) C dX11_soldier_86 rfl ?_
    refine am_getR (pc := 87) (j := 3) C dX11_soldier_87 f11_27 bn_0 sh_0 (rf_0_1 hR) ?_
    refine am_getR (pc := 90) (j := 25) C dX11_soldier_90 f11_177 bn_3 sh_3 (rf_3_2 hR) ?_
    refine am_getR (pc := 93) (j := 28) C dX11_soldier_93 f11_203 bn_25 sh_25 (rf_25_7 hR) ?_
    refine am_iload_n (pc := 96) C dX11_soldier_96 rfl ?_
    refine am_callSi (Y := mX11_pick) (pc := 97) (st := []) (As := [.ref 28, .int (nI (rf_nat s))]) (x := ((h 28) (rf_nat s))) (h2 := h) C dX11_soldier_97 k11_157 v_X11_pick rfl rfl (by decide) (Nat.le_of_ble_eq_true rfl) (Nat.le_of_ble_eq_true rfl) (Nat.le_of_ble_eq_true rfl) (c_X11_pick 28 (rf_nat s) 10 bn_28 sh_28 (show rf_nat s < 10 from by omega) (by decide)) ?_
    refine am_top (show ((h 28) (rf_nat s)) = (nI (rf_kn w (rf_nat s))) from ((hSc.2.1 (rf_nat s) (by omega)).2.2.1.trans (hV.2.1 (rf_nat s) (by omega)).2.2.2.2.1.1)) ?_
    have K9 : rf_c_soldier w s what = 0 := (show rf_c_soldier w s what = 0 from by simp only [rf_c_soldier, rf_cb, f2_0, (show rf_in what (nI 0) (nI 8) = true from by rw [e6_2]; rfl), Bool.not_true, Bool.not_false, cond_true, cond_false])
    have A9 : rf_a_soldier w s what = (nI (rf_kn w (rf_nat s))) := (by rw [rf_a_soldier, e6_2, rf_nat_nI (by decide)]; exact (Is9.2.2.2.2.1.1))
    exact am_iret T dX11_soldier_100 rfl rfl (Nat.le_of_ble_eq_true rfl) (Nat.le_of_ble_eq_true rfl) ⟨K9, by rw [A9], ⟨rfl, (fun _ _ => rfl)⟩⟩
  by_cases e6_3 : what = nI 3
  · refine am_tableIn (pc := 6) (tgt := 101) C dX11_soldier_6 (by rw [e6_3]; decide) (by rw [e6_3]; decide) (by rw [e6_3]; rfl) (by decide) ?_
    refine am_aload_n (pc := 101) C dX11_soldier_101 rfl ?_
    refine am_getR (pc := 102) (j := 3) C dX11_soldier_102 f11_27 bn_0 sh_0 (rf_0_1 hR) ?_
    refine am_getR (pc := 105) (j := 25) C dX11_soldier_105 f11_177 bn_3 sh_3 (rf_3_2 hR) ?_
    refine am_getR (pc := 108) (j := 29) C dX11_soldier_108 f11_206 bn_25 sh_25 (rf_25_8 hR) ?_
    refine am_iload_n (pc := 111) C dX11_soldier_111 rfl ?_
    refine am_callSi (Y := mX11_pick) (pc := 112) (st := []) (As := [.ref 29, .int (nI (rf_nat s))]) (x := ((h 29) (rf_nat s))) (h2 := h) C dX11_soldier_112 k11_157 v_X11_pick rfl rfl (by decide) (Nat.le_of_ble_eq_true rfl) (Nat.le_of_ble_eq_true rfl) (Nat.le_of_ble_eq_true rfl) (c_X11_pick 29 (rf_nat s) 10 bn_29 sh_29 (show rf_nat s < 10 from by omega) (by decide)) ?_
    refine am_top (show ((h 29) (rf_nat s)) = (rf_known w (rf_nat s)) from (hSc.2.1 (rf_nat s) (by omega)).2.2.2.1) ?_
    have K9 : rf_c_soldier w s what = 0 := (show rf_c_soldier w s what = 0 from by simp only [rf_c_soldier, rf_cb, f2_0, (show rf_in what (nI 0) (nI 8) = true from by rw [e6_3]; rfl), Bool.not_true, Bool.not_false, cond_true, cond_false])
    have A9 : rf_a_soldier w s what = (rf_known w (rf_nat s)) := (by rw [rf_a_soldier, e6_3, rf_nat_nI (by decide)]; try rfl)
    exact am_iret T dX11_soldier_115 rfl rfl (Nat.le_of_ble_eq_true rfl) (Nat.le_of_ble_eq_true rfl) ⟨K9, by rw [A9], ⟨rfl, (fun _ _ => rfl)⟩⟩
  by_cases e6_4 : what = nI 4
  · refine am_tableIn (pc := 6) (tgt := 116) C dX11_soldier_6 (by rw [e6_4]; decide) (by rw [e6_4]; decide) (by rw [e6_4]; rfl) (by decide) ?_
    refine am_aload_n (pc := 116) C dX11_soldier_116 rfl ?_
    refine am_getR (pc := 117) (j := 3) C dX11_soldier_117 f11_27 bn_0 sh_0 (rf_0_1 hR) ?_
    refine am_getR (pc := 120) (j := 25) C dX11_soldier_120 f11_177 bn_3 sh_3 (rf_3_2 hR) ?_
    refine am_getR (pc := 123) (j := 30) C dX11_soldier_123 f11_209 bn_25 sh_25 (rf_25_9 hR) ?_
    refine am_iload_n (pc := 126) C dX11_soldier_126 rfl ?_
    refine am_callSi (Y := mX11_pick) (pc := 127) (st := []) (As := [.ref 30, .int (nI (rf_nat s))]) (x := ((h 30) (rf_nat s))) (h2 := h) C dX11_soldier_127 k11_157 v_X11_pick rfl rfl (by decide) (Nat.le_of_ble_eq_true rfl) (Nat.le_of_ble_eq_true rfl) (Nat.le_of_ble_eq_true rfl) (c_X11_pick 30 (rf_nat s) 10 bn_30 sh_30 (show rf_nat s < 10 from by omega) (by decide)) ?_
    refine am_top (show ((h 30) (rf_nat s)) = (rf_use w (rf_nat s)) from (hSc.2.1 (rf_nat s) (by omega)).2.2.2.2.1) ?_
    have K9 : rf_c_soldier w s what = 0 := (show rf_c_soldier w s what = 0 from by simp only [rf_c_soldier, rf_cb, f2_0, (show rf_in what (nI 0) (nI 8) = true from by rw [e6_4]; rfl), Bool.not_true, Bool.not_false, cond_true, cond_false])
    have A9 : rf_a_soldier w s what = (rf_use w (rf_nat s)) := (by rw [rf_a_soldier, e6_4, rf_nat_nI (by decide)]; try rfl)
    exact am_iret T dX11_soldier_130 rfl rfl (Nat.le_of_ble_eq_true rfl) (Nat.le_of_ble_eq_true rfl) ⟨K9, by rw [A9], ⟨rfl, (fun _ _ => rfl)⟩⟩
  by_cases e6_5 : what = nI 5
  · refine am_tableIn (pc := 6) (tgt := 131) C dX11_soldier_6 (by rw [e6_5]; decide) (by rw [e6_5]; decide) (by rw [e6_5]; rfl) (by decide) ?_
    refine am_aload_n (pc := 131) C dX11_soldier_131 rfl ?_
    refine am_getR (pc := 132) (j := 3) C dX11_soldier_132 f11_27 bn_0 sh_0 (rf_0_1 hR) ?_
    refine am_getR (pc := 135) (j := 4) C dX11_soldier_135 f11_31 bn_3 sh_3 (rf_3_0 hR) ?_
    refine am_getR (pc := 138) (j := 11) C dX11_soldier_138 f11_212 bn_4 sh_4 (rf_4_10 hR) ?_
    refine am_iload_n (pc := 141) C dX11_soldier_141 rfl ?_
    refine am_callSi (Y := mX11_pick) (pc := 142) (st := []) (As := [.ref 11, .int (nI (rf_nat s))]) (x := ((h 11) (rf_nat s))) (h2 := h) C dX11_soldier_142 k11_157 v_X11_pick rfl rfl (by decide) (Nat.le_of_ble_eq_true rfl) (Nat.le_of_ble_eq_true rfl) (Nat.le_of_ble_eq_true rfl) (c_X11_pick 11 (rf_nat s) 10 bn_11 sh_11 (show rf_nat s < 10 from by omega) (by decide)) ?_
    refine am_top (show ((h 11) (rf_nat s)) = (rf_of w (rf_nat s) 22) from (hLo.2.2.1 (rf_nat s) (by omega)).2.1) ?_
    have K9 : rf_c_soldier w s what = 0 := (show rf_c_soldier w s what = 0 from by simp only [rf_c_soldier, rf_cb, f2_0, (show rf_in what (nI 0) (nI 8) = true from by rw [e6_5]; rfl), Bool.not_true, Bool.not_false, cond_true, cond_false])
    have A9 : rf_a_soldier w s what = (rf_of w (rf_nat s) 22) := (by rw [rf_a_soldier, e6_5, rf_nat_nI (by decide)]; try rfl)
    exact am_iret T dX11_soldier_145 rfl rfl (Nat.le_of_ble_eq_true rfl) (Nat.le_of_ble_eq_true rfl) ⟨K9, by rw [A9], ⟨rfl, (fun _ _ => rfl)⟩⟩
  by_cases e6_6 : what = nI 6
  · refine am_tableIn (pc := 6) (tgt := 146) C dX11_soldier_6 (by rw [e6_6]; decide) (by rw [e6_6]; decide) (by rw [e6_6]; rfl) (by decide) ?_
    refine am_aload_n (pc := 146) C dX11_soldier_146 rfl ?_
    refine am_getR (pc := 147) (j := 3) C dX11_soldier_147 f11_27 bn_0 sh_0 (rf_0_1 hR) ?_
    refine am_getR (pc := 150) (j := 4) C dX11_soldier_150 f11_31 bn_3 sh_3 (rf_3_0 hR) ?_
    refine am_getR (pc := 153) (j := 12) C dX11_soldier_153 f11_215 bn_4 sh_4 (rf_4_11 hR) ?_
    refine am_iload_n (pc := 156) C dX11_soldier_156 rfl ?_
    refine am_callSi (Y := mX11_pick) (pc := 157) (st := []) (As := [.ref 12, .int (nI (rf_nat s))]) (x := ((h 12) (rf_nat s))) (h2 := h) C dX11_soldier_157 k11_157 v_X11_pick rfl rfl (by decide) (Nat.le_of_ble_eq_true rfl) (Nat.le_of_ble_eq_true rfl) (Nat.le_of_ble_eq_true rfl) (c_X11_pick 12 (rf_nat s) 10 bn_12 sh_12 (show rf_nat s < 10 from by omega) (by decide)) ?_
    refine am_top (show ((h 12) (rf_nat s)) = (nI (rf_ofn w (rf_nat s) 2)) from ((hLo.2.2.1 (rf_nat s) (by omega)).2.2.1.trans (hV.2.1 (rf_nat s) (by omega)).2.1.1)) ?_
    have K9 : rf_c_soldier w s what = 0 := (show rf_c_soldier w s what = 0 from by simp only [rf_c_soldier, rf_cb, f2_0, (show rf_in what (nI 0) (nI 8) = true from by rw [e6_6]; rfl), Bool.not_true, Bool.not_false, cond_true, cond_false])
    have A9 : rf_a_soldier w s what = (nI (rf_ofn w (rf_nat s) 2)) := (by rw [rf_a_soldier, e6_6, rf_nat_nI (by decide)]; exact (Is9.2.1.1))
    exact am_iret T dX11_soldier_160 rfl rfl (Nat.le_of_ble_eq_true rfl) (Nat.le_of_ble_eq_true rfl) ⟨K9, by rw [A9], ⟨rfl, (fun _ _ => rfl)⟩⟩
  by_cases e6_7 : what = nI 7
  · refine am_tableIn (pc := 6) (tgt := 161) C dX11_soldier_6 (by rw [e6_7]; decide) (by rw [e6_7]; decide) (by rw [e6_7]; rfl) (by decide) ?_
    refine am_aload_n (pc := 161) C dX11_soldier_161 rfl ?_
    refine am_getR (pc := 162) (j := 3) C dX11_soldier_162 f11_27 bn_0 sh_0 (rf_0_1 hR) ?_
    refine am_getR (pc := 165) (j := 4) C dX11_soldier_165 f11_31 bn_3 sh_3 (rf_3_0 hR) ?_
    refine am_aload_n (pc := 168) C dX11_soldier_168 rfl ?_
    refine am_getR (pc := 169) (j := 3) C dX11_soldier_169 f11_27 bn_0 sh_0 (rf_0_1 hR) ?_
    refine am_getR (pc := 172) (j := 25) C dX11_soldier_172 f11_177 bn_3 sh_3 (rf_3_2 hR) ?_
    refine am_getR (pc := 175) (j := 30) C dX11_soldier_175 f11_209 bn_25 sh_25 (rf_25_9 hR) ?_
    refine am_iload_n (pc := 178) C dX11_soldier_178 rfl ?_
    refine am_callSi (Y := mX11_pick) (pc := 179) (st := [.ref 4]) (As := [.ref 30, .int (nI (rf_nat s))]) (x := ((h 30) (rf_nat s))) (h2 := h) C dX11_soldier_179 k11_157 v_X11_pick rfl rfl (by decide) (Nat.le_of_ble_eq_true rfl) (Nat.le_of_ble_eq_true rfl) (Nat.le_of_ble_eq_true rfl) (c_X11_pick 30 (rf_nat s) 10 bn_30 sh_30 (show rf_nat s < 10 from by omega) (by decide)) ?_
    refine am_top (show ((h 30) (rf_nat s)) = (rf_use w (rf_nat s)) from (hSc.2.1 (rf_nat s) (by omega)).2.2.2.2.1) ?_
    refine am_callVi (Y := mX3_worthOf) (pc := 182) (st := []) (As := [.int (rf_use w (rf_nat s))]) (x := (rf_worth w (rf_use w (rf_nat s)) (rf_M w))) (h2 := h) C dX11_soldier_182 k11_218 v_X3_worthOf rfl rfl bn_4 sh_4 ⟨by decide, rfl⟩ (by decide) (Nat.le_of_ble_eq_true rfl) (Nat.le_of_ble_eq_true rfl) (Nat.le_of_ble_eq_true rfl) (c_X3_worthOf hR (rf_use w (rf_nat s)) w hV hLo) ?_
    have K9 : rf_c_soldier w s what = 0 := (show rf_c_soldier w s what = 0 from by simp only [rf_c_soldier, rf_cb, f2_0, (show rf_in what (nI 0) (nI 8) = true from by rw [e6_7]; rfl), Bool.not_true, Bool.not_false, cond_true, cond_false])
    have A9 : rf_a_soldier w s what = (rf_worth w (rf_use w (rf_nat s)) (rf_M w)) := (by rw [rf_a_soldier, e6_7, rf_nat_nI (by decide)]; try rfl)
    exact am_iret T dX11_soldier_185 rfl rfl (Nat.le_of_ble_eq_true rfl) (Nat.le_of_ble_eq_true rfl) ⟨K9, by rw [A9], ⟨rfl, (fun _ _ => rfl)⟩⟩
  by_cases e6_8 : what = nI 8
  · refine am_tableIn (pc := 6) (tgt := 186) C dX11_soldier_6 (by rw [e6_8]; decide) (by rw [e6_8]; decide) (by rw [e6_8]; rfl) (by decide) ?_
    refine am_aload_n (pc := 186) C dX11_soldier_186 rfl ?_
    refine am_getR (pc := 187) (j := 3) C dX11_soldier_187 f11_27 bn_0 sh_0 (rf_0_1 hR) ?_
    refine am_getR (pc := 190) (j := 4) C dX11_soldier_190 f11_31 bn_3 sh_3 (rf_3_0 hR) ?_
    refine am_iload_n (pc := 193) C dX11_soldier_193 rfl ?_
    refine am_callVi (Y := mX3_ordersOf) (pc := 194) (st := []) (As := [.int (nI (rf_nat s))]) (x := (rf_ordersOf w (nI (rf_nat s)))) (h2 := h) C dX11_soldier_194 k11_221 v_X3_ordersOf rfl rfl bn_4 sh_4 ⟨by decide, rfl⟩ (by decide) (Nat.le_of_ble_eq_true rfl) (Nat.le_of_ble_eq_true rfl) (Nat.le_of_ble_eq_true rfl) (c_X3_ordersOf hR (nI (rf_nat s)) w hV hLo) ?_
    refine am_aload_n (pc := 197) C dX11_soldier_197 rfl ?_
    refine am_getR (pc := 198) (j := 3) C dX11_soldier_198 f11_27 bn_0 sh_0 (rf_0_1 hR) ?_
    refine am_callVi (Y := mX10_obeyedOrders) (pc := 201) (st := [.int (rf_ordersOf w (nI (rf_nat s)))]) (As := []) (x := (rf_obeyed w 12)) (h2 := h) C dX11_soldier_201 k11_224 v_X10_obeyedOrders rfl rfl bn_3 sh_3 ⟨by decide, rfl⟩ (by decide) (Nat.le_of_ble_eq_true rfl) (Nat.le_of_ble_eq_true rfl) (Nat.le_of_ble_eq_true rfl) (c_X10_obeyedOrders hR w hV hLo hSc) ?_
    refine am_iand (pc := 204) C dX11_soldier_204 ?_
    have K9 : rf_c_soldier w s what = 0 := (show rf_c_soldier w s what = 0 from by simp only [rf_c_soldier, rf_cb, f2_0, (show rf_in what (nI 0) (nI 8) = true from by rw [e6_8]; rfl), Bool.not_true, Bool.not_false, cond_true, cond_false])
    have A9 : rf_a_soldier w s what = ((rf_ordersOf w (nI (rf_nat s))) &&& (rf_obeyed w 12)) := (by rw [rf_a_soldier, e6_8, rf_nat_nI (by decide)]; exact Int32.and_comm _ _)
    exact am_iret T dX11_soldier_205 rfl rfl (Nat.le_of_ble_eq_true rfl) (Nat.le_of_ble_eq_true rfl) ⟨K9, by rw [A9], ⟨rfl, (fun _ _ => rfl)⟩⟩
  refine am_tableOut (pc := 6) (tgt := 206) C dX11_soldier_6 (am_tabD 0 8 (by decide) (fun k h1 h2 => by rcases (show k = 0 ∨ k = 1 ∨ k = 2 ∨ k = 3 ∨ k = 4 ∨ k = 5 ∨ k = 6 ∨ k = 7 ∨ k = 8 by omega) with rfl | rfl | rfl | rfl | rfl | rfl | rfl | rfl | rfl <;> assumption)) (by decide) ?_
  exact (TX "java/util/NoSuchElementException" r h ⟨1, (show rf_c_soldier w s what = 2 from by simp only [rf_c_soldier, rf_cb, f2_0, (show rf_in what (nI 0) (nI 8) = false from ex_inD (by decide) (fun k hk => by rcases (show k = 0 ∨ k = 1 ∨ k = 2 ∨ k = 3 ∨ k = 4 ∨ k = 5 ∨ k = 6 ∨ k = 7 ∨ k = 8 by omega) with rfl | rfl | rfl | rfl | rfl | rfl | rfl | rfl | rfl <;> assumption)), Bool.not_true, Bool.not_false, cond_true, cond_false]), rfl, ⟨rfl, (fun _ _ => rfl)⟩⟩ (1, 6) 206 [(0, .ref 0), (1, .int (nI (rf_nat s))), (2, .int what)] (Nat.le_of_ble_eq_true rfl) (Nat.le_of_ble_eq_true rfl)).2 (Nat.le_of_ble_eq_true rfl) (Nat.le_of_ble_eq_true rfl) ⟨rfl, 189, 228, 193, 28, 212, "a soldier has no such thing", ex_ok_NS, ⟨List.mem_of_getElem? (i := 29) rfl, by decide⟩, dX11_soldier_206, dX11_soldier_209, Or.inl ⟨dX11_soldier_210, rfl⟩, dX11_soldier_212, dX11_soldier_215⟩ [] (by decide)

set_option maxHeartbeats 400000 in
set_option maxRecDepth 100000 in
theorem c_X5_knownAtI {ad : Nat → Nat} {r : am_R} (hR : am_rs r) {h : am_H} (s : Nat) (k : Int32) (w : rf_W) (hV : rf_I w) (hSc : cl_Sc (h) 25 w) (hs : s < rf_S w)  : am_CM mX5_knownAt 1 0 0 [.ref 25, .int (nI s), .int k] (am_VV ad) r h (am_po (some (.int (bif rf_okN k (rf_kn w s) then rf_of w s (10 + rf_nat k) else -1))) r h) := by
  refine am_CM.of (by decide +kernel) (Nat.le_of_ble_eq_true rfl) (fun X C T => ?_)
  show am_G X (am_VV ad) (0, 0) 0 [(0, .ref 25), (1, .int (nI s)), (2, .int k)] [] r h
  have hM9 : rf_M w < 17 := hV.1.1.2
  have hS9 : rf_S w < 11 := hV.1.2.1.2
  have hO9 : rf_O w < 11 := hV.1.2.2.2
  have hIs := hV.2.1 s hs
  have hk13 : rf_kn w s < 13 := hIs.2.2.2.2.1.2
  refine am_iload_n (pc := 0) C dX5_knownAt_0 rfl ?_
  refine am_if_lt (pc := 1) (tgt := 32) C dX5_knownAt_1 (by decide) (fun q1 => ?_) (fun q1 => ?_)
  · skip
    refine am_iconst (pc := 32) (v := -1) C dX5_knownAt_32 rfl ?_
    exact am_ireti T dX5_knownAt_33 rfl (Nat.le_refl _) (Nat.le_refl _) (by rw [ex_okl q1]; rfl) rfl rfl
  · skip
    refine am_iload_n (pc := 4) C dX5_knownAt_4 rfl ?_
    refine am_aload_n (pc := 5) C dX5_knownAt_5 rfl ?_
    refine am_getR (pc := 6) (j := 28) C dX5_knownAt_6 f5_22 bn_25 sh_25 (rf_25_7 hR) ?_
    refine am_iload_n (pc := 9) C dX5_knownAt_9 rfl ?_
    refine am_callSNi (Y := mX11_pick) (pc := 10) (st := [.int k]) (As := [.ref 28, .int (nI s)]) (x := ((h 28) s)) (h2 := h) C dX5_knownAt_10 k5_75 v_X11_pick rfl rfl (by decide) (Nat.zero_le _) (Nat.zero_le _) (Nat.le_of_ble_eq_true rfl) (c_X11_pick 28 s 10 bn_28 sh_28 (show s < 10 from by omega) (by decide)) ?_
    refine am_top (show ((h 28) s) = (nI (rf_kn w s)) from ((hSc.2.1 s (by omega)).2.2.1.trans (hV.2.1 s (by omega)).2.2.2.2.1.1)) ?_
    refine am_icmp_ge (pc := 13) (tgt := 32) C dX5_knownAt_13 (by decide) (fun q13 => ?_) (fun q13 => ?_)
    · skip
      refine am_iconst (pc := 32) (v := -1) C dX5_knownAt_32 rfl ?_
      exact am_ireti T dX5_knownAt_33 rfl (Nat.le_refl _) (Nat.le_refl _) (by rw [ex_okg (by omega) (Int32.not_lt.mpr q13)]; rfl) rfl rfl
    · skip
      have n9 := rf_okN_n (show rf_kn w s < 1073741824 by omega) (ex_okt (by omega) q1 (Int32.not_le.mp q13))
      have m9 := n9.2
      refine am_lsv (ls' := [(0, .ref 25), (1, .int (nI s)), (2, .int (nI (rf_nat k)))]) (congrArg (fun z9 : Int32 => ([(0, .ref 25), (1, .int (nI s)), (2, Value.int z9)] : List (Nat × Value))) (show k = (nI (rf_nat k)) from n9.1)) ?_
      refine am_aload_n (pc := 16) C dX5_knownAt_16 rfl ?_
      refine am_getR (pc := 17) (j := 31) C dX5_knownAt_17 f5_31 bn_25 sh_25 (rf_25_10 hR) ?_
      refine am_iload_n (pc := 20) C dX5_knownAt_20 rfl ?_
      refine am_bipush (pc := 21) (v := nI 12) C dX5_knownAt_21 (by decide) ?_
      refine am_imulN (pc := 23) C dX5_knownAt_23 ?_
      refine am_iload_n (pc := 24) C dX5_knownAt_24 rfl ?_
      refine am_iaddN (pc := 25) C dX5_knownAt_25 ?_
      refine am_callSNi (Y := mX11_pick) (pc := 26) (st := []) (As := [.ref 31, .int (nI ((s * 12) + (rf_nat k)))]) (x := ((h 31) ((s * 12) + (rf_nat k)))) (h2 := h) C dX5_knownAt_26 k5_75 v_X11_pick rfl rfl (by decide) (Nat.zero_le _) (Nat.zero_le _) (Nat.le_of_ble_eq_true rfl) (c_X11_pick 31 ((s * 12) + (rf_nat k)) 120 bn_31 sh_31 (show (s * 12) + (rf_nat k) < 120 from by omega) (by decide)) ?_
      refine am_top (show ((h 31) ((s * 12) + (rf_nat k))) = (rf_of w s (10 + rf_nat k)) from ((hSc.2.1 s hs).2.2.2.2.2 _ m9)) ?_
      refine am_goto (pc := 29) (tgt := 33) C dX5_knownAt_29 (by decide) ?_
      exact am_ireti T dX5_knownAt_33 rfl (Nat.le_refl _) (Nat.le_refl _) (by rw [(ex_okt (by omega) q1 (Int32.not_le.mp q13))]; rfl) rfl rfl

set_option maxHeartbeats 400000 in
set_option maxRecDepth 100000 in
theorem c_X11_known {ad : Nat → Nat} {r : am_R} (hR : am_rs r) {h : am_H} (s : Int32) (k : Int32) (w : rf_W) (hV : rf_I w) (hLo : cl_Lo (h) 4 w) (hSc : cl_Sc (h) 25 w)  : am_XM mX11_known 7 1 6 [.ref 0, .int s, .int k] (am_VV ad) r h (ex_ret (rf_c_known w s k) (rf_a_known w s k) (fun r9 h9 => r9 = r ∧ cl_k h h9)) (ex_thr ["java/lang/IndexOutOfBoundsException"] (rf_c_known w s k) (fun r9 h9 => r9 = r ∧ cl_k h h9)) := by
  refine am_XM.of (by decide +kernel) (Nat.le_of_ble_eq_true rfl) (by decide) (fun X C T TX => ?_)
  show am_G X (am_VV ad) (0, 0) 0 [(0, .ref 0), (1, .int s), (2, .int k)] [] r h
  have hM9 : rf_M w < 17 := hV.1.1.2
  have hS9 : rf_S w < 11 := hV.1.2.1.2
  have hO9 : rf_O w < 11 := hV.1.2.2.2
  refine am_aload_n (pc := 0) C dX11_known_0 rfl ?_
  refine am_iload_n (pc := 1) C dX11_known_1 rfl ?_
  refine am_callVXc (Y := mX11_needSoldier) (pc := 2) (st := []) (As := [.int s]) (cz := (1, 6)) C dX11_known_2 k11_194 v_X11_needSoldier rfl rfl bn_0 sh_0 ⟨by decide, rfl⟩ (by decide) (Nat.le_of_ble_eq_true rfl) (Nat.le_of_ble_eq_true rfl) (Nat.le_of_ble_eq_true rfl) (c_X11_needSoldier hR s w hV hLo) rfl (fun E9 r9 h9 hx9 => ?_) (fun v9 r9 h9 hq9 => ?_)
  · obtain ⟨hx9, rfl, rfl⟩ := hx9
    obtain ⟨f2_0, rfl⟩ := hx9
    · exact (TX "java/lang/IndexOutOfBoundsException" r h ⟨0, (show rf_c_known w s k = 1 from by simp only [rf_c_known, rf_cb, f2_0, Bool.not_true, Bool.not_false, cond_true, cond_false]), rfl, ⟨rfl, (fun _ _ => rfl)⟩⟩ (1, 6) 2 [(0, .ref 0), (1, .int s), (2, .int k)] (Nat.le_of_ble_eq_true rfl) (Nat.le_of_ble_eq_true rfl)).1
  obtain ⟨f2_0, rfl, rfl, rfl⟩ := hq9
  show am_G X (am_VV ad) (1, 6) 5 [(0, .ref 0), (1, .int s), (2, .int k)] [] r h
  have nA := rf_okN_n (show rf_S w < 1073741824 by omega) f2_0
  have mA : rf_nat s < rf_S w := nA.2
  refine am_lsv (ls' := [(0, .ref 0), (1, .int (nI (rf_nat s))), (2, .int k)]) (congrArg (fun z9 : Int32 => ([(0, .ref 0), (1, Value.int z9), (2, .int k)] : List (Nat × Value))) (show s = (nI (rf_nat s)) from nA.1)) ?_
  refine am_aload_n (pc := 5) C dX11_known_5 rfl ?_
  refine am_getR (pc := 6) (j := 3) C dX11_known_6 f11_27 bn_0 sh_0 (rf_0_1 hR) ?_
  refine am_getR (pc := 9) (j := 25) C dX11_known_9 f11_177 bn_3 sh_3 (rf_3_2 hR) ?_
  refine am_iload_n (pc := 12) C dX11_known_12 rfl ?_
  refine am_iload_n (pc := 13) C dX11_known_13 rfl ?_
  refine am_callVi (Y := mX5_knownAt) (pc := 14) (st := []) (As := [.int (nI (rf_nat s)), .int k]) (x := (bif rf_okN k (rf_kn w (rf_nat s)) then rf_of w (rf_nat s) (10 + rf_nat k) else -1)) (h2 := h) C dX11_known_14 k11_230 v_X5_knownAt rfl rfl bn_25 sh_25 ⟨by decide, rfl⟩ (by decide) (Nat.le_of_ble_eq_true rfl) (Nat.le_of_ble_eq_true rfl) (Nat.le_of_ble_eq_true rfl) (c_X5_knownAtI hR (rf_nat s) k w hV hSc (show (rf_nat s) < rf_S w from by omega)) ?_
  have K9 : rf_c_known w s k = 0 := (show rf_c_known w s k = 0 from by simp only [rf_c_known, rf_cb, f2_0, Bool.not_true, Bool.not_false, cond_true, cond_false])
  have A9 : rf_a_known w s k = (bif rf_okN k (rf_kn w (rf_nat s)) then rf_of w (rf_nat s) (10 + rf_nat k) else -1) := rfl
  exact am_iret T dX11_known_17 rfl rfl (Nat.le_of_ble_eq_true rfl) (Nat.le_of_ble_eq_true rfl) ⟨K9, by rw [A9], ⟨rfl, (fun _ _ => rfl)⟩⟩

set_option maxHeartbeats 400000 in
set_option maxRecDepth 100000 in
theorem c_X11_place {ad : Nat → Nat} {r : am_R} (hR : am_rs r) {h : am_H} (s : Int32) (x : Int32) (w : rf_W) (hV : rf_I w) (hLo : cl_Lo (h) 4 w) (hSc : cl_Sc (h) 25 w)  : am_XM mX11_place 7 2 12 [.ref 0, .int s, .int x] (am_VV ad) r h (ex_ret (rf_c_place w s x) (rf_a_place w s x) (fun r9 h9 => r9 = r ∧ cl_k h h9)) (ex_thr ["java/lang/IndexOutOfBoundsException", "java/lang/IllegalArgumentException"] (rf_c_place w s x) (fun r9 h9 => r9 = r ∧ cl_k h h9)) := by
  refine am_XM.of (by decide +kernel) (Nat.le_of_ble_eq_true rfl) (by decide) (fun X C T TX => ?_)
  show am_G X (am_VV ad) (0, 0) 0 [(0, .ref 0), (1, .int s), (2, .int x)] [] r h
  have hM9 : rf_M w < 17 := hV.1.1.2
  have hS9 : rf_S w < 11 := hV.1.2.1.2
  have hO9 : rf_O w < 11 := hV.1.2.2.2
  refine am_aload_n (pc := 0) C dX11_place_0 rfl ?_
  refine am_iload_n (pc := 1) C dX11_place_1 rfl ?_
  refine am_callVXc (Y := mX11_needSoldier) (pc := 2) (st := []) (As := [.int s]) (cz := (1, 6)) C dX11_place_2 k11_194 v_X11_needSoldier rfl rfl bn_0 sh_0 ⟨by decide, rfl⟩ (by decide) (Nat.le_of_ble_eq_true rfl) (Nat.le_of_ble_eq_true rfl) (Nat.le_of_ble_eq_true rfl) (c_X11_needSoldier hR s w hV hLo) rfl (fun E9 r9 h9 hx9 => ?_) (fun v9 r9 h9 hq9 => ?_)
  · obtain ⟨hx9, rfl, rfl⟩ := hx9
    obtain ⟨f2_0, rfl⟩ := hx9
    · exact (TX "java/lang/IndexOutOfBoundsException" r h ⟨0, (show rf_c_place w s x = 1 from by simp only [rf_c_place, rf_cb, f2_0, Bool.not_true, Bool.not_false, cond_true, cond_false]), rfl, ⟨rfl, (fun _ _ => rfl)⟩⟩ (1, 6) 2 [(0, .ref 0), (1, .int s), (2, .int x)] (Nat.le_of_ble_eq_true rfl) (Nat.le_of_ble_eq_true rfl)).1
  obtain ⟨f2_0, rfl, rfl, rfl⟩ := hq9
  show am_G X (am_VV ad) (1, 6) 5 [(0, .ref 0), (1, .int s), (2, .int x)] [] r h
  have nA := rf_okN_n (show rf_S w < 1073741824 by omega) f2_0
  have mA : rf_nat s < rf_S w := nA.2
  refine am_lsv (ls' := [(0, .ref 0), (1, .int (nI (rf_nat s))), (2, .int x)]) (congrArg (fun z9 : Int32 => ([(0, .ref 0), (1, Value.int z9), (2, .int x)] : List (Nat × Value))) (show s = (nI (rf_nat s)) from nA.1)) ?_
  refine am_iload_n (pc := 5) C dX11_place_5 rfl ?_
  refine am_iconstN (pc := 6) (k := 0) C dX11_place_6 ?_
  refine am_sipush (pc := 7) (v := nI 1000) C dX11_place_7 (by decide) ?_
  refine am_callSXc (Y := mX11_needNumber) (pc := 10) (st := []) (As := [.int x, .int (nI 0), .int (nI 1000)]) (cz := (2, 12)) C dX11_place_10 k11_234 v_X11_needNumber rfl rfl (by decide) (Nat.le_of_ble_eq_true rfl) (Nat.le_of_ble_eq_true rfl) (Nat.le_of_ble_eq_true rfl) (c_X11_needNumber hR x 0 1000) rfl (fun E9 r9 h9 hx9 => ?_) (fun v9 r9 h9 hq9 => ?_)
  · obtain ⟨hx9, rfl, rfl⟩ := hx9
    obtain ⟨f10_0, rfl⟩ := hx9
    · exact (TX "java/lang/IllegalArgumentException" r h ⟨1, (show rf_c_place w s x = 2 from by simp only [rf_c_place, rf_cb, f2_0, f10_0, Bool.not_true, Bool.not_false, cond_true, cond_false]), rfl, ⟨rfl, (fun _ _ => rfl)⟩⟩ (2, 12) 10 [(0, .ref 0), (1, .int (nI (rf_nat s))), (2, .int x)] (Nat.le_of_ble_eq_true rfl) (Nat.le_of_ble_eq_true rfl)).1
  obtain ⟨f10_0, rfl, rfl, rfl⟩ := hq9
  show am_G X (am_VV ad) (2, 12) 13 [(0, .ref 0), (1, .int (nI (rf_nat s))), (2, .int x)] [] r h
  refine am_aload_n (pc := 13) C dX11_place_13 rfl ?_
  refine am_getR (pc := 14) (j := 3) C dX11_place_14 f11_27 bn_0 sh_0 (rf_0_1 hR) ?_
  refine am_iload_n (pc := 17) C dX11_place_17 rfl ?_
  refine am_iload_n (pc := 18) C dX11_place_18 rfl ?_
  refine am_callVi (Y := mX10_placeIn) (pc := 19) (st := []) (As := [.int (nI (rf_nat s)), .int x]) (x := (rf_pl2 w (rf_nat s) x)) (h2 := h) C dX11_place_19 k11_238 v_X10_placeIn rfl rfl bn_3 sh_3 ⟨by decide, rfl⟩ (by decide) (Nat.le_of_ble_eq_true rfl) (Nat.le_of_ble_eq_true rfl) (Nat.le_of_ble_eq_true rfl) (c_X10_placeIn hR (rf_nat s) x w hV hLo hSc (show (rf_nat s) < rf_S w from by omega)) ?_
  have K9 : rf_c_place w s x = 0 := (show rf_c_place w s x = 0 from by simp only [rf_c_place, rf_cb, f2_0, f10_0, Bool.not_true, Bool.not_false, cond_true, cond_false])
  have A9 : rf_a_place w s x = (rf_pl2 w (rf_nat s) x) := rfl
  exact am_iret T dX11_place_22 rfl rfl (Nat.le_of_ble_eq_true rfl) (Nat.le_of_ble_eq_true rfl) ⟨K9, by rw [A9], ⟨rfl, (fun _ _ => rfl)⟩⟩

set_option maxHeartbeats 400000 in
set_option maxRecDepth 100000 in
theorem c_X11_falls {ad : Nat → Nat} {r : am_R} (hR : am_rs r) {h : am_H} (s : Int32) (m : Int32) (w : rf_W) (hV : rf_I w) (hLo : cl_Lo (h) 4 w) (hSc : cl_Sc (h) 25 w)  : am_XM mX11_falls 7 2 12 [.ref 0, .int s, .int m] (am_VV ad) r h (ex_ret (rf_c_falls w s m) (rf_a_falls w s m) (fun r9 h9 => r9 = r ∧ cl_k h h9)) (ex_thr ["java/lang/IndexOutOfBoundsException"] (rf_c_falls w s m) (fun r9 h9 => r9 = r ∧ cl_k h h9)) := by
  refine am_XM.of (by decide +kernel) (Nat.le_of_ble_eq_true rfl) (by decide) (fun X C T TX => ?_)
  show am_G X (am_VV ad) (0, 0) 0 [(0, .ref 0), (1, .int s), (2, .int m)] [] r h
  have hM9 : rf_M w < 17 := hV.1.1.2
  have hS9 : rf_S w < 11 := hV.1.2.1.2
  have hO9 : rf_O w < 11 := hV.1.2.2.2
  refine am_aload_n (pc := 0) C dX11_falls_0 rfl ?_
  refine am_iload_n (pc := 1) C dX11_falls_1 rfl ?_
  refine am_callVXc (Y := mX11_needSoldier) (pc := 2) (st := []) (As := [.int s]) (cz := (1, 6)) C dX11_falls_2 k11_194 v_X11_needSoldier rfl rfl bn_0 sh_0 ⟨by decide, rfl⟩ (by decide) (Nat.le_of_ble_eq_true rfl) (Nat.le_of_ble_eq_true rfl) (Nat.le_of_ble_eq_true rfl) (c_X11_needSoldier hR s w hV hLo) rfl (fun E9 r9 h9 hx9 => ?_) (fun v9 r9 h9 hq9 => ?_)
  · obtain ⟨hx9, rfl, rfl⟩ := hx9
    obtain ⟨f2_0, rfl⟩ := hx9
    · exact (TX "java/lang/IndexOutOfBoundsException" r h ⟨0, (show rf_c_falls w s m = 1 from by simp only [rf_c_falls, rf_cb, f2_0, Bool.not_true, Bool.not_false, cond_true, cond_false]), rfl, ⟨rfl, (fun _ _ => rfl)⟩⟩ (1, 6) 2 [(0, .ref 0), (1, .int s), (2, .int m)] (Nat.le_of_ble_eq_true rfl) (Nat.le_of_ble_eq_true rfl)).1
  obtain ⟨f2_0, rfl, rfl, rfl⟩ := hq9
  show am_G X (am_VV ad) (1, 6) 5 [(0, .ref 0), (1, .int s), (2, .int m)] [] r h
  have nA := rf_okN_n (show rf_S w < 1073741824 by omega) f2_0
  have mA : rf_nat s < rf_S w := nA.2
  refine am_aload_n (pc := 5) C dX11_falls_5 rfl ?_
  refine am_iload_n (pc := 6) C dX11_falls_6 rfl ?_
  refine am_callVXc (Y := mX11_needMemory) (pc := 7) (st := []) (As := [.int m]) (cz := (2, 12)) C dX11_falls_7 k11_150 v_X11_needMemory rfl rfl bn_0 sh_0 ⟨by decide, rfl⟩ (by decide) (Nat.le_of_ble_eq_true rfl) (Nat.le_of_ble_eq_true rfl) (Nat.le_of_ble_eq_true rfl) (c_X11_needMemory hR m w hV hLo) rfl (fun E9 r9 h9 hx9 => ?_) (fun v9 r9 h9 hq9 => ?_)
  · obtain ⟨hx9, rfl, rfl⟩ := hx9
    obtain ⟨f7_0, rfl⟩ := hx9
    · exact (TX "java/lang/IndexOutOfBoundsException" r h ⟨0, (show rf_c_falls w s m = 1 from by simp only [rf_c_falls, rf_cb, f2_0, f7_0, Bool.not_true, Bool.not_false, cond_true, cond_false]), rfl, ⟨rfl, (fun _ _ => rfl)⟩⟩ (2, 12) 7 [(0, .ref 0), (1, .int s), (2, .int m)] (Nat.le_of_ble_eq_true rfl) (Nat.le_of_ble_eq_true rfl)).1
  obtain ⟨f7_0, rfl, rfl, rfl⟩ := hq9
  show am_G X (am_VV ad) (2, 12) 10 [(0, .ref 0), (1, .int s), (2, .int m)] [] r h
  have nB := rf_okN_n (show rf_M w < 1073741824 by omega) f7_0
  have mB : rf_nat m < rf_M w := nB.2
  refine am_lsv (ls' := [(0, .ref 0), (1, .int (nI (rf_nat s))), (2, .int m)]) (congrArg (fun z9 : Int32 => ([(0, .ref 0), (1, Value.int z9), (2, .int m)] : List (Nat × Value))) (show s = (nI (rf_nat s)) from nA.1)) ?_
  refine am_lsv (ls' := [(0, .ref 0), (1, .int (nI (rf_nat s))), (2, .int (nI (rf_nat m)))]) (congrArg (fun z9 : Int32 => ([(0, .ref 0), (1, .int (nI (rf_nat s))), (2, Value.int z9)] : List (Nat × Value))) (show m = (nI (rf_nat m)) from nB.1)) ?_
  refine am_aload_n (pc := 10) C dX11_falls_10 rfl ?_
  refine am_getR (pc := 11) (j := 3) C dX11_falls_11 f11_27 bn_0 sh_0 (rf_0_1 hR) ?_
  refine am_iload_n (pc := 14) C dX11_falls_14 rfl ?_
  refine am_iload_n (pc := 15) C dX11_falls_15 rfl ?_
  refine am_callVi (Y := mX10_fallsOf) (pc := 16) (st := []) (As := [.int (nI (rf_nat s)), .int (nI (rf_nat m))]) (x := (rf_falls w (rf_known w (rf_nat s)) (rf_nat m))) (h2 := h) C dX11_falls_16 k11_241 v_X10_fallsOf rfl rfl bn_3 sh_3 ⟨by decide, rfl⟩ (by decide) (Nat.le_of_ble_eq_true rfl) (Nat.le_of_ble_eq_true rfl) (Nat.le_of_ble_eq_true rfl) (c_X10_fallsOf hR (rf_nat s) (rf_nat m) w hV hLo hSc (show (rf_nat s) < rf_S w from by omega) (show (rf_nat m) < rf_M w from by omega)) ?_
  have K9 : rf_c_falls w s m = 0 := (show rf_c_falls w s m = 0 from by simp only [rf_c_falls, rf_cb, f2_0, f7_0, Bool.not_true, Bool.not_false, cond_true, cond_false])
  have A9 : rf_a_falls w s m = (rf_falls w (rf_known w (rf_nat s)) (rf_nat m)) := rfl
  exact am_iret T dX11_falls_19 rfl rfl (Nat.le_of_ble_eq_true rfl) (Nat.le_of_ble_eq_true rfl) ⟨K9, by rw [A9], ⟨rfl, (fun _ _ => rfl)⟩⟩

set_option maxHeartbeats 400000 in
set_option maxRecDepth 100000 in
theorem c_X11_order {ad : Nat → Nat} {r : am_R} (hR : am_rs r) {h : am_H} (o : Int32) (what : Int32) (w : rf_W) (hV : rf_I w) (hLo : cl_Lo (h) 4 w) (hSc : cl_Sc (h) 25 w)  : am_XM mX11_order 7 1 6 [.ref 0, .int o, .int what] (am_VV ad) r h (ex_ret (rf_c_order w o what) (rf_a_order w o what) (fun r9 h9 => r9 = r ∧ cl_k h h9)) (ex_thr ["java/lang/IndexOutOfBoundsException", "java/util/NoSuchElementException"] (rf_c_order w o what) (fun r9 h9 => r9 = r ∧ cl_k h h9)) := by
  refine am_XM.of (by decide +kernel) (Nat.le_of_ble_eq_true rfl) (by decide) (fun X C T TX => ?_)
  show am_G X (am_VV ad) (0, 0) 0 [(0, .ref 0), (1, .int o), (2, .int what)] [] r h
  have hM9 : rf_M w < 17 := hV.1.1.2
  have hS9 : rf_S w < 11 := hV.1.2.1.2
  have hO9 : rf_O w < 11 := hV.1.2.2.2
  refine am_iload_n (pc := 0) C dX11_order_0 rfl ?_
  refine am_if_lt (pc := 1) (tgt := 18) C dX11_order_1 (by decide) (fun q1 => ?_) (fun q1 => ?_)
  · skip
    exact (TX "java/lang/IndexOutOfBoundsException" r h ⟨0, (show rf_c_order w o what = 1 from by simp only [rf_c_order, rf_cb, ex_okl q1, Bool.not_true, Bool.not_false, cond_true, cond_false]), rfl, ⟨rfl, (fun _ _ => rfl)⟩⟩ (0, 0) 18 [(0, .ref 0), (1, .int o), (2, .int what)] (Nat.le_of_ble_eq_true rfl) (Nat.le_of_ble_eq_true rfl)).2 (Nat.le_of_ble_eq_true rfl) (Nat.le_of_ble_eq_true rfl) ⟨rfl, 247, 249, 251, 30, 24, "no such order", ex_ok_IB, ⟨List.mem_of_getElem? (i := 31) rfl, by decide⟩, dX11_order_18, dX11_order_21, Or.inl ⟨dX11_order_22, rfl⟩, dX11_order_24, dX11_order_27⟩ [] (by decide)
  · skip
    refine am_iload_n (pc := 4) C dX11_order_4 rfl ?_
    refine am_aload_n (pc := 5) C dX11_order_5 rfl ?_
    refine am_getR (pc := 6) (j := 3) C dX11_order_6 f11_27 bn_0 sh_0 (rf_0_1 hR) ?_
    refine am_getR (pc := 9) (j := 4) C dX11_order_9 f11_31 bn_3 sh_3 (rf_3_0 hR) ?_
    refine am_getI (pc := 12) C dX11_order_12 f11_244 bn_4 sh_4 ?_
    refine am_top (show ((h 4) 3) = (nI (rf_O w)) from (hLo.1.2.2.2.trans hV.1.2.2.1)) ?_
    refine am_icmp_lt (pc := 15) (tgt := 28) C dX11_order_15 (by decide) (fun q15 => ?_) (fun q15 => ?_)
    · skip
      have nA := rf_okN_n (show rf_O w < 1073741824 by omega) (ex_okt (by omega) q1 q15)
      have mA : rf_nat o < rf_O w := nA.2
      refine am_lsv (ls' := [(0, .ref 0), (1, .int (nI (rf_nat o))), (2, .int what)]) (congrArg (fun z9 : Int32 => ([(0, .ref 0), (1, Value.int z9), (2, .int what)] : List (Nat × Value))) (show o = (nI (rf_nat o)) from nA.1)) ?_
      refine am_iload_n (pc := 28) C dX11_order_28 rfl ?_
      by_cases e29_0 : what = nI 0
      · refine am_tableIn (pc := 29) (tgt := 60) C dX11_order_29 (by rw [e29_0]; decide) (by rw [e29_0]; decide) (by rw [e29_0]; rfl) (by decide) ?_
        refine am_aload_n (pc := 60) C dX11_order_60 rfl ?_
        refine am_getR (pc := 61) (j := 3) C dX11_order_61 f11_27 bn_0 sh_0 (rf_0_1 hR) ?_
        refine am_getR (pc := 64) (j := 4) C dX11_order_64 f11_31 bn_3 sh_3 (rf_3_0 hR) ?_
        refine am_getR (pc := 67) (j := 14) C dX11_order_67 f11_252 bn_4 sh_4 (rf_4_13 hR) ?_
        refine am_iload_n (pc := 70) C dX11_order_70 rfl ?_
        refine am_callSi (Y := mX11_pick) (pc := 71) (st := []) (As := [.ref 14, .int (nI (rf_nat o))]) (x := ((h 14) (rf_nat o))) (h2 := h) C dX11_order_71 k11_157 v_X11_pick rfl rfl (by decide) (Nat.le_of_ble_eq_true rfl) (Nat.le_of_ble_eq_true rfl) (Nat.le_of_ble_eq_true rfl) (c_X11_pick 14 (rf_nat o) 10 bn_14 sh_14 (show rf_nat o < 10 from by omega) (by decide)) ?_
        refine am_top (show ((h 14) (rf_nat o)) = (nI (rf_nat (rf_ord w (rf_nat o) 0))) from ((hLo.2.2.2.1 (rf_nat o) (by omega)).1.trans (hV.2.2.2.1 (rf_nat o) (by omega)).1.1)) ?_
        have K9 : rf_c_order w o what = 0 := (show rf_c_order w o what = 0 from by simp only [rf_c_order, rf_cb, ex_okt (show rf_O w < 1073741824 by omega) q1 q15, (show rf_in what (nI 0) (nI 3) = true from by rw [e29_0]; rfl), Bool.not_true, Bool.not_false, cond_true, cond_false])
        have A9 : rf_a_order w o what = (nI (rf_nat (rf_ord w (rf_nat o) 0))) := (by rw [rf_a_order, e29_0, rf_nat_nI (by decide)]; exact (hV.2.2.2.1 _ mA).1.1)
        exact am_iret T dX11_order_74 rfl rfl (Nat.le_of_ble_eq_true rfl) (Nat.le_of_ble_eq_true rfl) ⟨K9, by rw [A9], ⟨rfl, (fun _ _ => rfl)⟩⟩
      by_cases e29_1 : what = nI 1
      · refine am_tableIn (pc := 29) (tgt := 75) C dX11_order_29 (by rw [e29_1]; decide) (by rw [e29_1]; decide) (by rw [e29_1]; rfl) (by decide) ?_
        refine am_aload_n (pc := 75) C dX11_order_75 rfl ?_
        refine am_getR (pc := 76) (j := 3) C dX11_order_76 f11_27 bn_0 sh_0 (rf_0_1 hR) ?_
        refine am_getR (pc := 79) (j := 4) C dX11_order_79 f11_31 bn_3 sh_3 (rf_3_0 hR) ?_
        refine am_getR (pc := 82) (j := 15) C dX11_order_82 f11_255 bn_4 sh_4 (rf_4_14 hR) ?_
        refine am_iload_n (pc := 85) C dX11_order_85 rfl ?_
        refine am_callSi (Y := mX11_pick) (pc := 86) (st := []) (As := [.ref 15, .int (nI (rf_nat o))]) (x := ((h 15) (rf_nat o))) (h2 := h) C dX11_order_86 k11_157 v_X11_pick rfl rfl (by decide) (Nat.le_of_ble_eq_true rfl) (Nat.le_of_ble_eq_true rfl) (Nat.le_of_ble_eq_true rfl) (c_X11_pick 15 (rf_nat o) 10 bn_15 sh_15 (show rf_nat o < 10 from by omega) (by decide)) ?_
        refine am_top (show ((h 15) (rf_nat o)) = (rf_ord w (rf_nat o) 1) from (hLo.2.2.2.1 (rf_nat o) (by omega)).2) ?_
        have K9 : rf_c_order w o what = 0 := (show rf_c_order w o what = 0 from by simp only [rf_c_order, rf_cb, ex_okt (show rf_O w < 1073741824 by omega) q1 q15, (show rf_in what (nI 0) (nI 3) = true from by rw [e29_1]; rfl), Bool.not_true, Bool.not_false, cond_true, cond_false])
        have A9 : rf_a_order w o what = (rf_ord w (rf_nat o) 1) := (by rw [rf_a_order, e29_1, rf_nat_nI (by decide)]; try rfl)
        exact am_iret T dX11_order_89 rfl rfl (Nat.le_of_ble_eq_true rfl) (Nat.le_of_ble_eq_true rfl) ⟨K9, by rw [A9], ⟨rfl, (fun _ _ => rfl)⟩⟩
      by_cases e29_2 : what = nI 2
      · refine am_tableIn (pc := 29) (tgt := 90) C dX11_order_29 (by rw [e29_2]; decide) (by rw [e29_2]; decide) (by rw [e29_2]; rfl) (by decide) ?_
        refine am_aload_n (pc := 90) C dX11_order_90 rfl ?_
        refine am_getR (pc := 91) (j := 3) C dX11_order_91 f11_27 bn_0 sh_0 (rf_0_1 hR) ?_
        refine am_callVi (Y := mX10_obeyedOrders) (pc := 94) (st := []) (As := []) (x := (rf_obeyed w 12)) (h2 := h) C dX11_order_94 k11_224 v_X10_obeyedOrders rfl rfl bn_3 sh_3 ⟨by decide, rfl⟩ (by decide) (Nat.le_of_ble_eq_true rfl) (Nat.le_of_ble_eq_true rfl) (Nat.le_of_ble_eq_true rfl) (c_X10_obeyedOrders hR w hV hLo hSc) ?_
        refine am_iload_n (pc := 97) C dX11_order_97 rfl ?_
        refine am_ishr (pc := 98) C dX11_order_98 ?_
        refine am_iconstN (pc := 99) (k := 1) C dX11_order_99 ?_
        refine am_iand (pc := 100) C dX11_order_100 ?_
        have K9 : rf_c_order w o what = 0 := (show rf_c_order w o what = 0 from by simp only [rf_c_order, rf_cb, ex_okt (show rf_O w < 1073741824 by omega) q1 q15, (show rf_in what (nI 0) (nI 3) = true from by rw [e29_2]; rfl), Bool.not_true, Bool.not_false, cond_true, cond_false])
        have A9 : rf_a_order w o what = (((rf_obeyed w 12) >>> ((nI (rf_nat o)) &&& 31)) &&& (nI 1)) := (by rw [rf_a_order, e29_2, rf_nat_nI (by decide)]; try rfl)
        exact am_iret T dX11_order_101 rfl rfl (Nat.le_of_ble_eq_true rfl) (Nat.le_of_ble_eq_true rfl) ⟨K9, by rw [A9], ⟨rfl, (fun _ _ => rfl)⟩⟩
      by_cases e29_3 : what = nI 3
      · refine am_tableIn (pc := 29) (tgt := 102) C dX11_order_29 (by rw [e29_3]; decide) (by rw [e29_3]; decide) (by rw [e29_3]; rfl) (by decide) ?_
        refine am_aload_n (pc := 102) C dX11_order_102 rfl ?_
        refine am_getR (pc := 103) (j := 3) C dX11_order_103 f11_27 bn_0 sh_0 (rf_0_1 hR) ?_
        refine am_getR (pc := 106) (j := 4) C dX11_order_106 f11_31 bn_3 sh_3 (rf_3_0 hR) ?_
        refine am_iload_n (pc := 109) C dX11_order_109 rfl ?_
        refine am_callVi (Y := mX3_neededInAll) (pc := 110) (st := []) (As := [.int (nI (rf_nat o))]) (x := (rf_pc (rf_bearsAll w (rf_ord w (rf_nat o) 1)))) (h2 := h) C dX11_order_110 k11_258 v_X3_neededInAll rfl rfl bn_4 sh_4 ⟨by decide, rfl⟩ (by decide) (Nat.le_of_ble_eq_true rfl) (Nat.le_of_ble_eq_true rfl) (Nat.le_of_ble_eq_true rfl) (c_X3_neededInAll hR (rf_nat o) w hV hLo (show (rf_nat o) < rf_O w from by omega)) ?_
        have K9 : rf_c_order w o what = 0 := (show rf_c_order w o what = 0 from by simp only [rf_c_order, rf_cb, ex_okt (show rf_O w < 1073741824 by omega) q1 q15, (show rf_in what (nI 0) (nI 3) = true from by rw [e29_3]; rfl), Bool.not_true, Bool.not_false, cond_true, cond_false])
        have A9 : rf_a_order w o what = (rf_pc (rf_bearsAll w (rf_ord w (rf_nat o) 1))) := (by rw [rf_a_order, e29_3, rf_nat_nI (by decide)]; try rfl)
        exact am_iret T dX11_order_113 rfl rfl (Nat.le_of_ble_eq_true rfl) (Nat.le_of_ble_eq_true rfl) ⟨K9, by rw [A9], ⟨rfl, (fun _ _ => rfl)⟩⟩
      refine am_tableOut (pc := 29) (tgt := 114) C dX11_order_29 (am_tabD 0 3 (by decide) (fun k h1 h2 => by rcases (show k = 0 ∨ k = 1 ∨ k = 2 ∨ k = 3 by omega) with rfl | rfl | rfl | rfl <;> assumption)) (by decide) ?_
      exact (TX "java/util/NoSuchElementException" r h ⟨1, (show rf_c_order w o what = 2 from by simp only [rf_c_order, rf_cb, ex_okt (show rf_O w < 1073741824 by omega) q1 q15, (show rf_in what (nI 0) (nI 3) = false from ex_inD (by decide) (fun k hk => by rcases (show k = 0 ∨ k = 1 ∨ k = 2 ∨ k = 3 by omega) with rfl | rfl | rfl | rfl <;> assumption)), Bool.not_true, Bool.not_false, cond_true, cond_false]), rfl, ⟨rfl, (fun _ _ => rfl)⟩⟩ (0, 0) 114 [(0, .ref 0), (1, .int (nI (rf_nat o))), (2, .int what)] (Nat.le_of_ble_eq_true rfl) (Nat.le_of_ble_eq_true rfl)).2 (Nat.le_of_ble_eq_true rfl) (Nat.le_of_ble_eq_true rfl) ⟨rfl, 189, 261, 193, 31, 121, "an order has no such thing", ex_ok_NS, ⟨List.mem_of_getElem? (i := 32) rfl, by decide⟩, dX11_order_114, dX11_order_117, Or.inr ⟨dX11_order_118, rfl⟩, dX11_order_121, dX11_order_124⟩ [] (by decide)
    · skip
      exact (TX "java/lang/IndexOutOfBoundsException" r h ⟨0, (show rf_c_order w o what = 1 from by simp only [rf_c_order, rf_cb, ex_okg (show rf_O w < 1073741824 by omega) q15, Bool.not_true, Bool.not_false, cond_true, cond_false]), rfl, ⟨rfl, (fun _ _ => rfl)⟩⟩ (0, 0) 18 [(0, .ref 0), (1, .int o), (2, .int what)] (Nat.le_of_ble_eq_true rfl) (Nat.le_of_ble_eq_true rfl)).2 (Nat.le_of_ble_eq_true rfl) (Nat.le_of_ble_eq_true rfl) ⟨rfl, 247, 249, 251, 30, 24, "no such order", ex_ok_IB, ⟨List.mem_of_getElem? (i := 31) rfl, by decide⟩, dX11_order_18, dX11_order_21, Or.inl ⟨dX11_order_22, rfl⟩, dX11_order_24, dX11_order_27⟩ [] (by decide)

set_option maxHeartbeats 400000 in
set_option maxRecDepth 100000 in
theorem c_X11_field {ad : Nat → Nat} {r : am_R} (hR : am_rs r) {h : am_H} (k : Int32) (what : Int32) (w : rf_W) (hV : rf_I w) (hLo : cl_Lo (h) 4 w) (hSc : cl_Sc (h) 25 w)  : am_XM mX11_field 7 2 12 [.ref 0, .int k, .int what] (am_VV ad) r h (ex_ret (rf_c_field w k what) (rf_a_field w k what) (fun r9 h9 => r9 = r ∧ cl_k h h9)) (ex_thr ["java/lang/IndexOutOfBoundsException", "java/util/NoSuchElementException"] (rf_c_field w k what) (fun r9 h9 => r9 = r ∧ cl_k h h9)) := by
  refine am_XM.of (by decide +kernel) (Nat.le_of_ble_eq_true rfl) (by decide) (fun X C T TX => ?_)
  show am_G X (am_VV ad) (0, 0) 0 [(0, .ref 0), (1, .int k), (2, .int what)] [] r h
  have hM9 : rf_M w < 17 := hV.1.1.2
  have hS9 : rf_S w < 11 := hV.1.2.1.2
  have hO9 : rf_O w < 11 := hV.1.2.2.2
  have hF9 : rf_F w < 41 := hV.2.2.2.2.1.2.2.1.2
  refine am_aload_n (pc := 0) C dX11_field_0 rfl ?_
  refine am_iload_n (pc := 1) C dX11_field_1 rfl ?_
  refine am_callVXc (Y := mX11_needThing) (pc := 2) (st := []) (As := [.int k]) (cz := (1, 6)) C dX11_field_2 k11_315 v_X11_needThing rfl rfl bn_0 sh_0 ⟨by decide, rfl⟩ (by decide) (Nat.le_of_ble_eq_true rfl) (Nat.le_of_ble_eq_true rfl) (Nat.le_of_ble_eq_true rfl) (c_X11_needThing hR k w hV hSc) rfl (fun E9 r9 h9 hx9 => ?_) (fun v9 r9 h9 hq9 => ?_)
  · obtain ⟨hx9, rfl, rfl⟩ := hx9
    obtain ⟨f2_0, rfl⟩ := hx9
    · exact (TX "java/lang/IndexOutOfBoundsException" r h ⟨0, (show rf_c_field w k what = 1 from by simp only [rf_c_field, rf_cb, f2_0, Bool.not_true, Bool.not_false, cond_true, cond_false]), rfl, ⟨rfl, (fun _ _ => rfl)⟩⟩ (1, 6) 2 [(0, .ref 0), (1, .int k), (2, .int what)] (Nat.le_of_ble_eq_true rfl) (Nat.le_of_ble_eq_true rfl)).1
  obtain ⟨f2_0, rfl, rfl, rfl⟩ := hq9
  show am_G X (am_VV ad) (1, 6) 5 [(0, .ref 0), (1, .int k), (2, .int what)] [] r h
  have nA := rf_okN_n (show rf_F w < 1073741824 by omega) f2_0
  have mA : rf_nat k < rf_F w := nA.2
  refine am_lsv (ls' := [(0, .ref 0), (1, .int (nI (rf_nat k))), (2, .int what)]) (congrArg (fun z9 : Int32 => ([(0, .ref 0), (1, Value.int z9), (2, .int what)] : List (Nat × Value))) (show k = (nI (rf_nat k)) from nA.1)) ?_
  refine am_iload_n (pc := 5) C dX11_field_5 rfl ?_
  by_cases e6_0 : what = nI 0
  · refine am_tableIn (pc := 6) (tgt := 32) C dX11_field_6 (by rw [e6_0]; decide) (by rw [e6_0]; decide) (by rw [e6_0]; rfl) (by decide) ?_
    refine am_aload_n (pc := 32) C dX11_field_32 rfl ?_
    refine am_getR (pc := 33) (j := 3) C dX11_field_33 f11_27 bn_0 sh_0 (rf_0_1 hR) ?_
    refine am_getR (pc := 36) (j := 25) C dX11_field_36 f11_177 bn_3 sh_3 (rf_3_2 hR) ?_
    refine am_getR (pc := 39) (j := 32) C dX11_field_39 f11_318 bn_25 sh_25 (rf_25_11 hR) ?_
    refine am_iload_n (pc := 42) C dX11_field_42 rfl ?_
    refine am_callSi (Y := mX11_pick) (pc := 43) (st := []) (As := [.ref 32, .int (nI (rf_nat k))]) (x := ((h 32) (rf_nat k))) (h2 := h) C dX11_field_43 k11_157 v_X11_pick rfl rfl (by decide) (Nat.le_of_ble_eq_true rfl) (Nat.le_of_ble_eq_true rfl) (Nat.le_of_ble_eq_true rfl) (c_X11_pick 32 (rf_nat k) 40 bn_32 sh_32 (show rf_nat k < 40 from by omega) (by decide)) ?_
    refine am_top (show ((h 32) (rf_nat k)) = (rf_fld w (rf_nat k) 0) from (hSc.2.2.1 (rf_nat k) (by omega)).1) ?_
    have K9 : rf_c_field w k what = 0 := (show rf_c_field w k what = 0 from by simp only [rf_c_field, rf_cb, f2_0, (show rf_in what (nI 0) (nI 2) = true from by rw [e6_0]; rfl), Bool.not_true, Bool.not_false, cond_true, cond_false])
    have A9 : rf_a_field w k what = (rf_fld w (rf_nat k) 0) := (by rw [rf_a_field, e6_0, rf_nat_nI (by decide)]; try rfl)
    exact am_iret T dX11_field_46 rfl rfl (Nat.le_of_ble_eq_true rfl) (Nat.le_of_ble_eq_true rfl) ⟨K9, by rw [A9], ⟨rfl, (fun _ _ => rfl)⟩⟩
  by_cases e6_1 : what = nI 1
  · refine am_tableIn (pc := 6) (tgt := 47) C dX11_field_6 (by rw [e6_1]; decide) (by rw [e6_1]; decide) (by rw [e6_1]; rfl) (by decide) ?_
    refine am_aload_n (pc := 47) C dX11_field_47 rfl ?_
    refine am_getR (pc := 48) (j := 3) C dX11_field_48 f11_27 bn_0 sh_0 (rf_0_1 hR) ?_
    refine am_getR (pc := 51) (j := 25) C dX11_field_51 f11_177 bn_3 sh_3 (rf_3_2 hR) ?_
    refine am_getR (pc := 54) (j := 33) C dX11_field_54 f11_321 bn_25 sh_25 (rf_25_12 hR) ?_
    refine am_iload_n (pc := 57) C dX11_field_57 rfl ?_
    refine am_callSi (Y := mX11_pick) (pc := 58) (st := []) (As := [.ref 33, .int (nI (rf_nat k))]) (x := ((h 33) (rf_nat k))) (h2 := h) C dX11_field_58 k11_157 v_X11_pick rfl rfl (by decide) (Nat.le_of_ble_eq_true rfl) (Nat.le_of_ble_eq_true rfl) (Nat.le_of_ble_eq_true rfl) (c_X11_pick 33 (rf_nat k) 40 bn_33 sh_33 (show rf_nat k < 40 from by omega) (by decide)) ?_
    refine am_top (show ((h 33) (rf_nat k)) = (rf_fld w (rf_nat k) 1) from (hSc.2.2.1 (rf_nat k) (by omega)).2.1) ?_
    have K9 : rf_c_field w k what = 0 := (show rf_c_field w k what = 0 from by simp only [rf_c_field, rf_cb, f2_0, (show rf_in what (nI 0) (nI 2) = true from by rw [e6_1]; rfl), Bool.not_true, Bool.not_false, cond_true, cond_false])
    have A9 : rf_a_field w k what = (rf_fld w (rf_nat k) 1) := (by rw [rf_a_field, e6_1, rf_nat_nI (by decide)]; try rfl)
    exact am_iret T dX11_field_61 rfl rfl (Nat.le_of_ble_eq_true rfl) (Nat.le_of_ble_eq_true rfl) ⟨K9, by rw [A9], ⟨rfl, (fun _ _ => rfl)⟩⟩
  by_cases e6_2 : what = nI 2
  · refine am_tableIn (pc := 6) (tgt := 62) C dX11_field_6 (by rw [e6_2]; decide) (by rw [e6_2]; decide) (by rw [e6_2]; rfl) (by decide) ?_
    refine am_aload_n (pc := 62) C dX11_field_62 rfl ?_
    refine am_getR (pc := 63) (j := 3) C dX11_field_63 f11_27 bn_0 sh_0 (rf_0_1 hR) ?_
    refine am_getR (pc := 66) (j := 25) C dX11_field_66 f11_177 bn_3 sh_3 (rf_3_2 hR) ?_
    refine am_getR (pc := 69) (j := 34) C dX11_field_69 f11_334 bn_25 sh_25 (rf_25_13 hR) ?_
    refine am_iload_n (pc := 72) C dX11_field_72 rfl ?_
    refine am_callSi (Y := mX11_pick) (pc := 73) (st := []) (As := [.ref 34, .int (nI (rf_nat k))]) (x := ((h 34) (rf_nat k))) (h2 := h) C dX11_field_73 k11_157 v_X11_pick rfl rfl (by decide) (Nat.le_of_ble_eq_true rfl) (Nat.le_of_ble_eq_true rfl) (Nat.le_of_ble_eq_true rfl) (c_X11_pick 34 (rf_nat k) 40 bn_34 sh_34 (show rf_nat k < 40 from by omega) (by decide)) ?_
    refine am_top (show ((h 34) (rf_nat k)) = (rf_fld w (rf_nat k) 2) from (hSc.2.2.1 (rf_nat k) (by omega)).2.2) ?_
    have K9 : rf_c_field w k what = 0 := (show rf_c_field w k what = 0 from by simp only [rf_c_field, rf_cb, f2_0, (show rf_in what (nI 0) (nI 2) = true from by rw [e6_2]; rfl), Bool.not_true, Bool.not_false, cond_true, cond_false])
    have A9 : rf_a_field w k what = (rf_fld w (rf_nat k) 2) := (by rw [rf_a_field, e6_2, rf_nat_nI (by decide)]; try rfl)
    exact am_iret T dX11_field_76 rfl rfl (Nat.le_of_ble_eq_true rfl) (Nat.le_of_ble_eq_true rfl) ⟨K9, by rw [A9], ⟨rfl, (fun _ _ => rfl)⟩⟩
  refine am_tableOut (pc := 6) (tgt := 77) C dX11_field_6 (am_tabD 0 2 (by decide) (fun k h1 h2 => by rcases (show k = 0 ∨ k = 1 ∨ k = 2 by omega) with rfl | rfl | rfl <;> assumption)) (by decide) ?_
  exact (TX "java/util/NoSuchElementException" r h ⟨1, (show rf_c_field w k what = 2 from by simp only [rf_c_field, rf_cb, f2_0, (show rf_in what (nI 0) (nI 2) = false from ex_inD (by decide) (fun k hk => by rcases (show k = 0 ∨ k = 1 ∨ k = 2 by omega) with rfl | rfl | rfl <;> assumption)), Bool.not_true, Bool.not_false, cond_true, cond_false]), rfl, ⟨rfl, (fun _ _ => rfl)⟩⟩ (1, 6) 77 [(0, .ref 0), (1, .int (nI (rf_nat k))), (2, .int what)] (Nat.le_of_ble_eq_true rfl) (Nat.le_of_ble_eq_true rfl)).2 (Nat.le_of_ble_eq_true rfl) (Nat.le_of_ble_eq_true rfl) ⟨rfl, 189, 337, 193, 39, 84, "what lies there has no such thing", ex_ok_NS, ⟨List.mem_of_getElem? (i := 40) rfl, by decide⟩, dX11_field_77, dX11_field_80, Or.inr ⟨dX11_field_81, rfl⟩, dX11_field_84, dX11_field_87⟩ [] (by decide)

set_option maxHeartbeats 400000 in
set_option maxRecDepth 100000 in
theorem c_X11_plan {ad : Nat → Nat} {r : am_R} (hR : am_rs r) {h : am_H} (d : Int32) (lost : Bool) (w : rf_W) (hV : rf_I w) (hLo : cl_Lo (h) 4 w) (hSc : cl_Sc (h) 25 w)  : am_XM mX11_plan 7 1 6 [.ref 0, .int d, .int (am_b lost)] (am_VV ad) r h (ex_ret (rf_c_plan w d lost) (rf_a_plan w d lost) (fun r9 h9 => r9 = r ∧ cl_k h h9)) (ex_thr ["java/lang/IndexOutOfBoundsException"] (rf_c_plan w d lost) (fun r9 h9 => r9 = r ∧ cl_k h h9)) := by
  refine am_XM.of (by decide +kernel) (Nat.le_of_ble_eq_true rfl) (by decide) (fun X C T TX => ?_)
  show am_G X (am_VV ad) (0, 0) 0 [(0, .ref 0), (1, .int d), (2, .int (am_b lost))] [] r h
  have hM9 : rf_M w < 17 := hV.1.1.2
  have hS9 : rf_S w < 11 := hV.1.2.1.2
  have hO9 : rf_O w < 11 := hV.1.2.2.2
  refine am_iload_n (pc := 0) C dX11_plan_0 rfl ?_
  refine am_callSXc (Y := mX11_needSide) (pc := 1) (st := []) (As := [.int d]) (cz := (1, 6)) C dX11_plan_1 k11_339 v_X11_needSide rfl rfl (by decide) (Nat.le_of_ble_eq_true rfl) (Nat.le_of_ble_eq_true rfl) (Nat.le_of_ble_eq_true rfl) (c_X11_needSide hR d) rfl (fun E9 r9 h9 hx9 => ?_) (fun v9 r9 h9 hq9 => ?_)
  · obtain ⟨hx9, rfl, rfl⟩ := hx9
    obtain ⟨f1_0, rfl⟩ := hx9
    · exact (TX "java/lang/IndexOutOfBoundsException" r h ⟨0, (show rf_c_plan w d lost = 1 from by simp only [rf_c_plan, rf_cb, f1_0, Bool.not_true, Bool.not_false, cond_true, cond_false]), rfl, ⟨rfl, (fun _ _ => rfl)⟩⟩ (1, 6) 1 [(0, .ref 0), (1, .int d), (2, .int (am_b lost))] (Nat.le_of_ble_eq_true rfl) (Nat.le_of_ble_eq_true rfl)).1
  obtain ⟨f1_0, rfl, rfl, rfl⟩ := hq9
  show am_G X (am_VV ad) (1, 6) 4 [(0, .ref 0), (1, .int d), (2, .int (am_b lost))] [] r h
  obtain ⟨nA, mA⟩ := rf_in_n0 (b := 1) (by decide) f1_0
  refine am_lsv (ls' := [(0, .ref 0), (1, .int (nI (rf_nat d))), (2, .int (am_b lost))]) (congrArg (fun z9 : Int32 => ([(0, .ref 0), (1, Value.int z9), (2, .int (am_b lost))] : List (Nat × Value))) (show d = (nI (rf_nat d)) from nA)) ?_
  refine am_aload_n (pc := 4) C dX11_plan_4 rfl ?_
  refine am_getR (pc := 5) (j := 3) C dX11_plan_5 f11_27 bn_0 sh_0 (rf_0_1 hR) ?_
  refine am_getR (pc := 8) (j := 4) C dX11_plan_8 f11_31 bn_3 sh_3 (rf_3_0 hR) ?_
  refine am_getR (pc := 11) (j := 16) C dX11_plan_11 f11_342 bn_4 sh_4 (rf_4_15 hR) ?_
  refine am_iload_n (pc := 14) C dX11_plan_14 rfl ?_
  refine am_callSi (Y := mX11_pick) (pc := 15) (st := []) (As := [.ref 16, .int (nI (rf_nat d))]) (x := ((h 16) (rf_nat d))) (h2 := h) C dX11_plan_15 k11_157 v_X11_pick rfl rfl (by decide) (Nat.le_of_ble_eq_true rfl) (Nat.le_of_ble_eq_true rfl) (Nat.le_of_ble_eq_true rfl) (c_X11_pick 16 (rf_nat d) 2 bn_16 sh_16 (show rf_nat d < 2 from by omega) (by decide)) ?_
  refine am_top (show ((h 16) (rf_nat d)) = (w (11 + (rf_nat d))) from (cl_plan hLo (by omega))) ?_
  refine am_istore_n (pc := 18) (ls' := [(0, .ref 0), (1, .int (nI (rf_nat d))), (2, .int (am_b lost)), (3, .int (w (11 + (rf_nat d))))]) C dX11_plan_18 (by decide) rfl ?_
  refine am_iload_n (pc := 19) C dX11_plan_19 rfl ?_
  refine am_if_eqB (pc := 20) (tgt := 38) C dX11_plan_20 (by decide) (fun q18 => ?_) (fun q18 => ?_)
  · skip
    refine am_iload_n (pc := 38) C dX11_plan_38 rfl ?_
    have K9 : rf_c_plan w d lost = 0 := (show rf_c_plan w d lost = 0 from by simp only [rf_c_plan, rf_cb, f1_0, Bool.not_true, Bool.not_false, cond_true, cond_false])
    have A9 : rf_a_plan w d lost = (w (11 + (rf_nat d))) := (by rw [rf_a_plan, q18]; rfl)
    exact am_iret T dX11_plan_39 rfl rfl (Nat.le_of_ble_eq_true rfl) (Nat.le_of_ble_eq_true rfl) ⟨K9, by rw [A9], ⟨rfl, (fun _ _ => rfl)⟩⟩
  · skip
    refine am_iload_n (pc := 23) C dX11_plan_23 rfl ?_
    refine am_aload_n (pc := 24) C dX11_plan_24 rfl ?_
    refine am_getR (pc := 25) (j := 3) C dX11_plan_25 f11_27 bn_0 sh_0 (rf_0_1 hR) ?_
    refine am_iload_n (pc := 28) C dX11_plan_28 rfl ?_
    refine am_callVi (Y := mX10_usableBySide) (pc := 29) (st := [.int (w (11 + (rf_nat d)))]) (As := [.int (nI (rf_nat d))]) (x := (rf_usableBy w (nI (rf_nat d)))) (h2 := h) C dX11_plan_29 k11_345 v_X10_usableBySide rfl rfl bn_3 sh_3 ⟨by decide, rfl⟩ (by decide) (Nat.le_of_ble_eq_true rfl) (Nat.le_of_ble_eq_true rfl) (Nat.le_of_ble_eq_true rfl) (c_X10_usableBySide hR (nI (rf_nat d)) w hV hLo hSc) ?_
    refine am_iconst (pc := 32) (v := -1) C dX11_plan_32 rfl ?_
    refine am_ixor (pc := 33) C dX11_plan_33 ?_
    refine am_iand (pc := 34) C dX11_plan_34 ?_
    refine am_goto (pc := 35) (tgt := 39) C dX11_plan_35 (by decide) ?_
    have K9 : rf_c_plan w d lost = 0 := (show rf_c_plan w d lost = 0 from by simp only [rf_c_plan, rf_cb, f1_0, Bool.not_true, Bool.not_false, cond_true, cond_false])
    have A9 : rf_a_plan w d lost = ((w (11 + (rf_nat d))) &&& ((rf_usableBy w (nI (rf_nat d))) ^^^ (-1))) := (by rw [rf_a_plan, q18]; exact cl_lost hV mA)
    exact am_iret T dX11_plan_39 rfl rfl (Nat.le_of_ble_eq_true rfl) (Nat.le_of_ble_eq_true rfl) ⟨K9, by rw [A9], ⟨rfl, (fun _ _ => rfl)⟩⟩

set_option maxHeartbeats 400000 in
set_option maxRecDepth 100000 in
theorem c_X11_shots {ad : Nat → Nat} {r : am_R} (hR : am_rs r) {h : am_H} (s : Int32) (m : Int32) (good : Bool) (w : rf_W) (hV : rf_I w) (hLo : cl_Lo (h) 4 w) (hSc : cl_Sc (h) 25 w)  : am_XM mX11_shots 7 2 12 [.ref 0, .int s, .int m, .int (am_b good)] (am_VV ad) r h (ex_ret (rf_c_shots w s m good) (rf_a_shots w s m good) (fun r9 h9 => r9 = r ∧ cl_k h h9)) (ex_thr ["java/lang/IndexOutOfBoundsException"] (rf_c_shots w s m good) (fun r9 h9 => r9 = r ∧ cl_k h h9)) := by
  refine am_XM.of (by decide +kernel) (Nat.le_of_ble_eq_true rfl) (by decide) (fun X C T TX => ?_)
  show am_G X (am_VV ad) (0, 0) 0 [(0, .ref 0), (1, .int s), (2, .int m), (3, .int (am_b good))] [] r h
  have hM9 : rf_M w < 17 := hV.1.1.2
  have hS9 : rf_S w < 11 := hV.1.2.1.2
  have hO9 : rf_O w < 11 := hV.1.2.2.2
  refine am_aload_n (pc := 0) C dX11_shots_0 rfl ?_
  refine am_iload_n (pc := 1) C dX11_shots_1 rfl ?_
  refine am_callVXc (Y := mX11_needSoldier) (pc := 2) (st := []) (As := [.int s]) (cz := (1, 6)) C dX11_shots_2 k11_194 v_X11_needSoldier rfl rfl bn_0 sh_0 ⟨by decide, rfl⟩ (by decide) (Nat.le_of_ble_eq_true rfl) (Nat.le_of_ble_eq_true rfl) (Nat.le_of_ble_eq_true rfl) (c_X11_needSoldier hR s w hV hLo) rfl (fun E9 r9 h9 hx9 => ?_) (fun v9 r9 h9 hq9 => ?_)
  · obtain ⟨hx9, rfl, rfl⟩ := hx9
    obtain ⟨f2_0, rfl⟩ := hx9
    · exact (TX "java/lang/IndexOutOfBoundsException" r h ⟨0, (show rf_c_shots w s m good = 1 from by simp only [rf_c_shots, rf_cb, f2_0, Bool.not_true, Bool.not_false, cond_true, cond_false]), rfl, ⟨rfl, (fun _ _ => rfl)⟩⟩ (1, 6) 2 [(0, .ref 0), (1, .int s), (2, .int m), (3, .int (am_b good))] (Nat.le_of_ble_eq_true rfl) (Nat.le_of_ble_eq_true rfl)).1
  obtain ⟨f2_0, rfl, rfl, rfl⟩ := hq9
  show am_G X (am_VV ad) (1, 6) 5 [(0, .ref 0), (1, .int s), (2, .int m), (3, .int (am_b good))] [] r h
  have nA := rf_okN_n (show rf_S w < 1073741824 by omega) f2_0
  have mA : rf_nat s < rf_S w := nA.2
  refine am_aload_n (pc := 5) C dX11_shots_5 rfl ?_
  refine am_iload_n (pc := 6) C dX11_shots_6 rfl ?_
  refine am_callVXc (Y := mX11_needMemory) (pc := 7) (st := []) (As := [.int m]) (cz := (2, 12)) C dX11_shots_7 k11_150 v_X11_needMemory rfl rfl bn_0 sh_0 ⟨by decide, rfl⟩ (by decide) (Nat.le_of_ble_eq_true rfl) (Nat.le_of_ble_eq_true rfl) (Nat.le_of_ble_eq_true rfl) (c_X11_needMemory hR m w hV hLo) rfl (fun E9 r9 h9 hx9 => ?_) (fun v9 r9 h9 hq9 => ?_)
  · obtain ⟨hx9, rfl, rfl⟩ := hx9
    obtain ⟨f7_0, rfl⟩ := hx9
    · exact (TX "java/lang/IndexOutOfBoundsException" r h ⟨0, (show rf_c_shots w s m good = 1 from by simp only [rf_c_shots, rf_cb, f2_0, f7_0, Bool.not_true, Bool.not_false, cond_true, cond_false]), rfl, ⟨rfl, (fun _ _ => rfl)⟩⟩ (2, 12) 7 [(0, .ref 0), (1, .int s), (2, .int m), (3, .int (am_b good))] (Nat.le_of_ble_eq_true rfl) (Nat.le_of_ble_eq_true rfl)).1
  obtain ⟨f7_0, rfl, rfl, rfl⟩ := hq9
  show am_G X (am_VV ad) (2, 12) 10 [(0, .ref 0), (1, .int s), (2, .int m), (3, .int (am_b good))] [] r h
  have nB := rf_okN_n (show rf_M w < 1073741824 by omega) f7_0
  have mB : rf_nat m < rf_M w := nB.2
  refine am_lsv (ls' := [(0, .ref 0), (1, .int (nI (rf_nat s))), (2, .int m), (3, .int (am_b good))]) (congrArg (fun z9 : Int32 => ([(0, .ref 0), (1, Value.int z9), (2, .int m), (3, .int (am_b good))] : List (Nat × Value))) (show s = (nI (rf_nat s)) from nA.1)) ?_
  refine am_lsv (ls' := [(0, .ref 0), (1, .int (nI (rf_nat s))), (2, .int (nI (rf_nat m))), (3, .int (am_b good))]) (congrArg (fun z9 : Int32 => ([(0, .ref 0), (1, .int (nI (rf_nat s))), (2, Value.int z9), (3, .int (am_b good))] : List (Nat × Value))) (show m = (nI (rf_nat m)) from nB.1)) ?_
  refine am_aload_n (pc := 10) C dX11_shots_10 rfl ?_
  refine am_getR (pc := 11) (j := 314) C dX11_shots_11 f11_78 bn_0 sh_0 (rf_0_8 hR) ?_
  refine am_iload_n (pc := 14) C dX11_shots_14 rfl ?_
  refine am_iload_n (pc := 15) C dX11_shots_15 rfl ?_
  refine am_iload_n (pc := 16) C dX11_shots_16 rfl ?_
  refine am_callVi (Y := mX6_shotsAt) (pc := 17) (st := []) (As := [.int (nI (rf_nat s)), .int (nI (rf_nat m)), .int (am_b good)]) (x := (nI (rf_shots w (rf_nat s) (rf_nat m) good))) (h2 := h) C dX11_shots_17 k11_348 v_X6_shotsAt rfl rfl bn_314 sh_314 ⟨by decide, rfl⟩ (by decide) (Nat.le_of_ble_eq_true rfl) (Nat.le_of_ble_eq_true rfl) (Nat.le_of_ble_eq_true rfl) (c_X6_shotsAt hR (rf_nat s) (rf_nat m) good w hV hLo hSc (show (rf_nat s) < rf_S w from by omega) (show (rf_nat m) < rf_M w from by omega)) ?_
  have K9 : rf_c_shots w s m good = 0 := (show rf_c_shots w s m good = 0 from by simp only [rf_c_shots, rf_cb, f2_0, f7_0, Bool.not_true, Bool.not_false, cond_true, cond_false])
  have A9 : rf_a_shots w s m good = (nI (rf_shots w (rf_nat s) (rf_nat m) good)) := rfl
  exact am_iret T dX11_shots_20 rfl rfl (Nat.le_of_ble_eq_true rfl) (Nat.le_of_ble_eq_true rfl) ⟨K9, by rw [A9], ⟨rfl, (fun _ _ => rfl)⟩⟩

set_option maxHeartbeats 400000 in
set_option maxRecDepth 100000 in
theorem c_X11_outlasts {ad : Nat → Nat} {r : am_R} (hR : am_rs r) {h : am_H} (d : Int32) (good : Bool) (which : Bool) (w : rf_W) (hV : rf_I w) (hLo : cl_Lo (h) 4 w) (hSc : cl_Sc (h) 25 w)  : am_XM mX11_outlasts 7 1 6 [.ref 0, .int d, .int (am_b good), .int (am_b which)] (am_VV ad) r h (ex_ret (rf_c_outlasts w d good which) (rf_a_outlasts w d good which) (fun r9 h9 => r9 = r ∧ cl_k h h9)) (ex_thr ["java/lang/IndexOutOfBoundsException"] (rf_c_outlasts w d good which) (fun r9 h9 => r9 = r ∧ cl_k h h9)) := by
  refine am_XM.of (by decide +kernel) (Nat.le_of_ble_eq_true rfl) (by decide) (fun X C T TX => ?_)
  show am_G X (am_VV ad) (0, 0) 0 [(0, .ref 0), (1, .int d), (2, .int (am_b good)), (3, .int (am_b which))] [] r h
  have hM9 : rf_M w < 17 := hV.1.1.2
  have hS9 : rf_S w < 11 := hV.1.2.1.2
  have hO9 : rf_O w < 11 := hV.1.2.2.2
  refine am_iload_n (pc := 0) C dX11_outlasts_0 rfl ?_
  refine am_callSXc (Y := mX11_needSide) (pc := 1) (st := []) (As := [.int d]) (cz := (1, 6)) C dX11_outlasts_1 k11_339 v_X11_needSide rfl rfl (by decide) (Nat.le_of_ble_eq_true rfl) (Nat.le_of_ble_eq_true rfl) (Nat.le_of_ble_eq_true rfl) (c_X11_needSide hR d) rfl (fun E9 r9 h9 hx9 => ?_) (fun v9 r9 h9 hq9 => ?_)
  · obtain ⟨hx9, rfl, rfl⟩ := hx9
    obtain ⟨f1_0, rfl⟩ := hx9
    · exact (TX "java/lang/IndexOutOfBoundsException" r h ⟨0, (show rf_c_outlasts w d good which = 1 from by simp only [rf_c_outlasts, rf_cb, f1_0, Bool.not_true, Bool.not_false, cond_true, cond_false]), rfl, ⟨rfl, (fun _ _ => rfl)⟩⟩ (1, 6) 1 [(0, .ref 0), (1, .int d), (2, .int (am_b good)), (3, .int (am_b which))] (Nat.le_of_ble_eq_true rfl) (Nat.le_of_ble_eq_true rfl)).1
  obtain ⟨f1_0, rfl, rfl, rfl⟩ := hq9
  show am_G X (am_VV ad) (1, 6) 4 [(0, .ref 0), (1, .int d), (2, .int (am_b good)), (3, .int (am_b which))] [] r h
  obtain ⟨nA, mA⟩ := rf_in_n0 (b := 1) (by decide) f1_0
  refine am_lsv (ls' := [(0, .ref 0), (1, .int (nI (rf_nat d))), (2, .int (am_b good)), (3, .int (am_b which))]) (congrArg (fun z9 : Int32 => ([(0, .ref 0), (1, Value.int z9), (2, .int (am_b good)), (3, .int (am_b which))] : List (Nat × Value))) (show d = (nI (rf_nat d)) from nA)) ?_
  refine am_aload_n (pc := 4) C dX11_outlasts_4 rfl ?_
  refine am_getR (pc := 5) (j := 314) C dX11_outlasts_5 f11_78 bn_0 sh_0 (rf_0_8 hR) ?_
  refine am_iload_n (pc := 8) C dX11_outlasts_8 rfl ?_
  refine am_iload_n (pc := 9) C dX11_outlasts_9 rfl ?_
  refine am_callVi (Y := mX6_weakestOfPlan) (pc := 10) (st := []) (As := [.int (nI (rf_nat d)), .int (am_b good)]) (x := (am_oi ((rf_ol w (rf_nat d) good (rf_M w)).1))) (h2 := h) C dX11_outlasts_10 k11_351 v_X6_weakestOfPlan rfl rfl bn_314 sh_314 ⟨by decide, rfl⟩ (by decide) (Nat.le_of_ble_eq_true rfl) (Nat.le_of_ble_eq_true rfl) (Nat.le_of_ble_eq_true rfl) (c_X6_weakestOfPlan hR (rf_nat d) good w hV hLo hSc (show (rf_nat d) < 2 from by omega)) ?_
  have ol9 := rf_ol_le (side := rf_nat d) (g := good) hV (rf_M w)
  refine am_istore (pc := 13) (ls' := [(0, .ref 0), (1, .int (nI (rf_nat d))), (2, .int (am_b good)), (3, .int (am_b which)), (4, .int (am_oi ((rf_ol w (rf_nat d) good (rf_M w)).1)))]) C dX11_outlasts_13 (by decide) rfl ?_
  refine am_iload_n (pc := 15) C dX11_outlasts_15 rfl ?_
  refine am_if_neB (pc := 16) (tgt := 25) C dX11_outlasts_16 (by decide) (fun q16 => ?_) (fun q16 => ?_)
  · skip
    refine am_iload (pc := 25) C dX11_outlasts_25 rfl ?_
    refine am_goto (pc := 27) (tgt := 41) C dX11_outlasts_27 (by decide) ?_
    have K9 : rf_c_outlasts w d good which = 0 := (show rf_c_outlasts w d good which = 0 from by simp only [rf_c_outlasts, rf_cb, f1_0, Bool.not_true, Bool.not_false, cond_true, cond_false])
    have A9 : rf_a_outlasts w d good which = (am_oi ((rf_ol w (rf_nat d) good (rf_M w)).1)) := (by rw [rf_a_outlasts, q16]; rfl)
    exact am_iret T dX11_outlasts_41 rfl rfl (Nat.le_of_ble_eq_true rfl) (Nat.le_of_ble_eq_true rfl) ⟨K9, by rw [A9], ⟨rfl, (fun _ _ => rfl)⟩⟩
  · skip
    refine am_iload (pc := 19) C dX11_outlasts_19 rfl ?_
    refine am_iconst (pc := 21) (v := -1) C dX11_outlasts_21 rfl ?_
    refine am_icmp_neO (pc := 22) (tgt := 30) C dX11_outlasts_22 (by decide) (by omega) (fun q22 => ?_) (fun q22 => ?_)
    · skip
      refine am_lsv (ls' := [(0, .ref 0), (1, .int (nI (rf_nat d))), (2, .int (am_b good)), (3, .int (am_b which)), (4, .int (nI ((rf_ol w (rf_nat d) good (rf_M w)).1 - 1)))]) (congrArg (fun z9 : Int32 => ([(0, .ref 0), (1, .int (nI (rf_nat d))), (2, .int (am_b good)), (3, .int (am_b which)), (4, Value.int z9)] : List (Nat × Value))) (show (am_oi ((rf_ol w (rf_nat d) good (rf_M w)).1)) = (nI ((rf_ol w (rf_nat d) good (rf_M w)).1 - 1)) from (cl_oiN (by omega)))) ?_
      refine am_aload_n (pc := 30) C dX11_outlasts_30 rfl ?_
      refine am_getR (pc := 31) (j := 314) C dX11_outlasts_31 f11_78 bn_0 sh_0 (rf_0_8 hR) ?_
      refine am_iload_n (pc := 34) C dX11_outlasts_34 rfl ?_
      refine am_iload (pc := 35) C dX11_outlasts_35 rfl ?_
      refine am_iload_n (pc := 37) C dX11_outlasts_37 rfl ?_
      refine am_callVi (Y := mX6_shotsAtSide) (pc := 38) (st := []) (As := [.int (nI (rf_nat d)), .int (nI ((rf_ol w (rf_nat d) good (rf_M w)).1 - 1)), .int (am_b good)]) (x := (nI (rf_osum w (nI (rf_nat d)) ((rf_ol w (rf_nat d) good (rf_M w)).1 - 1) good (rf_S w)))) (h2 := h) C dX11_outlasts_38 k11_355 v_X6_shotsAtSide rfl rfl bn_314 sh_314 ⟨by decide, rfl⟩ (by decide) (Nat.le_of_ble_eq_true rfl) (Nat.le_of_ble_eq_true rfl) (Nat.le_of_ble_eq_true rfl) (c_X6_shotsAtSide hR (nI (rf_nat d)) ((rf_ol w (rf_nat d) good (rf_M w)).1 - 1) good w hV hLo hSc (show ((rf_ol w (rf_nat d) good (rf_M w)).1 - 1) < rf_M w from by omega)) ?_
      have K9 : rf_c_outlasts w d good which = 0 := (show rf_c_outlasts w d good which = 0 from by simp only [rf_c_outlasts, rf_cb, f1_0, Bool.not_true, Bool.not_false, cond_true, cond_false])
      have A9 : rf_a_outlasts w d good which = (nI (rf_osum w (nI (rf_nat d)) ((rf_ol w (rf_nat d) good (rf_M w)).1 - 1) good (rf_S w))) := (by rw [rf_a_outlasts, q16]; exact cl_ol1 hV mA (by omega))
      exact am_iret T dX11_outlasts_41 rfl rfl (Nat.le_of_ble_eq_true rfl) (Nat.le_of_ble_eq_true rfl) ⟨K9, by rw [A9], ⟨rfl, (fun _ _ => rfl)⟩⟩
    · skip
      refine am_iload (pc := 25) C dX11_outlasts_25 rfl ?_
      refine am_goto (pc := 27) (tgt := 41) C dX11_outlasts_27 (by decide) ?_
      have K9 : rf_c_outlasts w d good which = 0 := (show rf_c_outlasts w d good which = 0 from by simp only [rf_c_outlasts, rf_cb, f1_0, Bool.not_true, Bool.not_false, cond_true, cond_false])
      have A9 : rf_a_outlasts w d good which = (am_oi ((rf_ol w (rf_nat d) good (rf_M w)).1)) := (by rw [rf_a_outlasts, q16, q22, cl_ol0 q22]; rfl)
      exact am_iret T dX11_outlasts_41 rfl rfl (Nat.le_of_ble_eq_true rfl) (Nat.le_of_ble_eq_true rfl) ⟨K9, by rw [A9], ⟨rfl, (fun _ _ => rfl)⟩⟩

set_option maxHeartbeats 400000 in
set_option maxRecDepth 100000 in
theorem c_X11_reserves {ad : Nat → Nat} {r : am_R} (hR : am_rs r) {h : am_H} (d : Int32) (k : Int32) (w : rf_W) (hV : rf_I w) (hLo : cl_Lo (h) 4 w) (hSc : cl_Sc (h) 25 w)  : am_XM mX11_reserves 7 2 12 [.ref 0, .int d, .int k] (am_VV ad) r h (ex_ret (rf_c_reserves w d k) (rf_a_reserves w d k) (fun r9 h9 => r9 = r ∧ cl_k h h9)) (ex_thr ["java/lang/IndexOutOfBoundsException", "java/lang/IllegalArgumentException"] (rf_c_reserves w d k) (fun r9 h9 => r9 = r ∧ cl_k h h9)) := by
  refine am_XM.of (by decide +kernel) (Nat.le_of_ble_eq_true rfl) (by decide) (fun X C T TX => ?_)
  show am_G X (am_VV ad) (0, 0) 0 [(0, .ref 0), (1, .int d), (2, .int k)] [] r h
  have hM9 : rf_M w < 17 := hV.1.1.2
  have hS9 : rf_S w < 11 := hV.1.2.1.2
  have hO9 : rf_O w < 11 := hV.1.2.2.2
  refine am_iload_n (pc := 0) C dX11_reserves_0 rfl ?_
  refine am_callSXc (Y := mX11_needSide) (pc := 1) (st := []) (As := [.int d]) (cz := (1, 6)) C dX11_reserves_1 k11_339 v_X11_needSide rfl rfl (by decide) (Nat.le_of_ble_eq_true rfl) (Nat.le_of_ble_eq_true rfl) (Nat.le_of_ble_eq_true rfl) (c_X11_needSide hR d) rfl (fun E9 r9 h9 hx9 => ?_) (fun v9 r9 h9 hq9 => ?_)
  · obtain ⟨hx9, rfl, rfl⟩ := hx9
    obtain ⟨f1_0, rfl⟩ := hx9
    · exact (TX "java/lang/IndexOutOfBoundsException" r h ⟨0, (show rf_c_reserves w d k = 1 from by simp only [rf_c_reserves, rf_cb, f1_0, Bool.not_true, Bool.not_false, cond_true, cond_false]), rfl, ⟨rfl, (fun _ _ => rfl)⟩⟩ (1, 6) 1 [(0, .ref 0), (1, .int d), (2, .int k)] (Nat.le_of_ble_eq_true rfl) (Nat.le_of_ble_eq_true rfl)).1
  obtain ⟨f1_0, rfl, rfl, rfl⟩ := hq9
  show am_G X (am_VV ad) (1, 6) 4 [(0, .ref 0), (1, .int d), (2, .int k)] [] r h
  obtain ⟨nA, mA⟩ := rf_in_n0 (b := 1) (by decide) f1_0
  refine am_iload_n (pc := 4) C dX11_reserves_4 rfl ?_
  refine am_iconstN (pc := 5) (k := 1) C dX11_reserves_5 ?_
  refine am_bipush (pc := 6) (v := nI 10) C dX11_reserves_6 (by decide) ?_
  refine am_callSXc (Y := mX11_needNumber) (pc := 8) (st := []) (As := [.int k, .int (nI 1), .int (nI 10)]) (cz := (2, 12)) C dX11_reserves_8 k11_234 v_X11_needNumber rfl rfl (by decide) (Nat.le_of_ble_eq_true rfl) (Nat.le_of_ble_eq_true rfl) (Nat.le_of_ble_eq_true rfl) (c_X11_needNumber hR k 1 10) rfl (fun E9 r9 h9 hx9 => ?_) (fun v9 r9 h9 hq9 => ?_)
  · obtain ⟨hx9, rfl, rfl⟩ := hx9
    obtain ⟨f8_0, rfl⟩ := hx9
    · exact (TX "java/lang/IllegalArgumentException" r h ⟨1, (show rf_c_reserves w d k = 2 from by simp only [rf_c_reserves, rf_cb, f1_0, f8_0, Bool.not_true, Bool.not_false, cond_true, cond_false]), rfl, ⟨rfl, (fun _ _ => rfl)⟩⟩ (2, 12) 8 [(0, .ref 0), (1, .int d), (2, .int k)] (Nat.le_of_ble_eq_true rfl) (Nat.le_of_ble_eq_true rfl)).1
  obtain ⟨f8_0, rfl, rfl, rfl⟩ := hq9
  show am_G X (am_VV ad) (2, 12) 11 [(0, .ref 0), (1, .int d), (2, .int k)] [] r h
  obtain ⟨⟨nB, mB⟩, lB⟩ := rf_in_n (a := 1) (b := 10) (by decide) (by decide) f8_0
  refine am_lsv (ls' := [(0, .ref 0), (1, .int (nI (rf_nat d))), (2, .int k)]) (congrArg (fun z9 : Int32 => ([(0, .ref 0), (1, Value.int z9), (2, .int k)] : List (Nat × Value))) (show d = (nI (rf_nat d)) from nA)) ?_
  refine am_lsv (ls' := [(0, .ref 0), (1, .int (nI (rf_nat d))), (2, .int (nI (rf_nat k)))]) (congrArg (fun z9 : Int32 => ([(0, .ref 0), (1, .int (nI (rf_nat d))), (2, Value.int z9)] : List (Nat × Value))) (show k = (nI (rf_nat k)) from nB)) ?_
  refine am_aload_n (pc := 11) C dX11_reserves_11 rfl ?_
  refine am_getR (pc := 12) (j := 314) C dX11_reserves_12 f11_78 bn_0 sh_0 (rf_0_8 hR) ?_
  refine am_iload_n (pc := 15) C dX11_reserves_15 rfl ?_
  refine am_iload_n (pc := 16) C dX11_reserves_16 rfl ?_
  refine am_callVi (Y := mX6_lackingTo) (pc := 17) (st := []) (As := [.int (nI (rf_nat d)), .int (nI (rf_nat k))]) (x := (rf_rv w (rf_nat d) (rf_nat k) (rf_M w) 0 (nI 0))) (h2 := h) C dX11_reserves_17 k11_358 v_X6_lackingTo rfl rfl bn_314 sh_314 ⟨by decide, rfl⟩ (by decide) (Nat.le_of_ble_eq_true rfl) (Nat.le_of_ble_eq_true rfl) (Nat.le_of_ble_eq_true rfl) (c_X6_lackingTo hR (rf_nat d) (rf_nat k) w hV hLo hSc (show (rf_nat d) < 2 from by omega) (show (rf_nat k) < 11 from by omega)) ?_
  have K9 : rf_c_reserves w d k = 0 := (show rf_c_reserves w d k = 0 from by simp only [rf_c_reserves, rf_cb, f1_0, f8_0, Bool.not_true, Bool.not_false, cond_true, cond_false])
  have A9 : rf_a_reserves w d k = (rf_rv w (rf_nat d) (rf_nat k) (rf_M w) 0 (nI 0)) := rfl
  exact am_iret T dX11_reserves_20 rfl rfl (Nat.le_of_ble_eq_true rfl) (Nat.le_of_ble_eq_true rfl) ⟨K9, by rw [A9], ⟨rfl, (fun _ _ => rfl)⟩⟩

set_option maxHeartbeats 400000 in
set_option maxRecDepth 100000 in
theorem c_X11_company {ad : Nat → Nat} {r : am_R} (hR : am_rs r) {h : am_H} (n : Int32) (w : rf_W) (hV : rf_I w) (hLo : cl_Lo (h) 4 w) (hSc : cl_Sc (h) 25 w)  : am_XM mX11_company 7 1 6 [.ref 0, .int n] (am_VV ad) r h (ex_ret (rf_c_company w n) (rf_a_company w n) (fun r9 h9 => r9 = r ∧ cl_k h h9)) (ex_thr ["java/lang/IllegalArgumentException"] (rf_c_company w n) (fun r9 h9 => r9 = r ∧ cl_k h h9)) := by
  refine am_XM.of (by decide +kernel) (Nat.le_of_ble_eq_true rfl) (by decide) (fun X C T TX => ?_)
  show am_G X (am_VV ad) (0, 0) 0 [(0, .ref 0), (1, .int n)] [] r h
  have hM9 : rf_M w < 17 := hV.1.1.2
  have hS9 : rf_S w < 11 := hV.1.2.1.2
  have hO9 : rf_O w < 11 := hV.1.2.2.2
  refine am_iload_n (pc := 0) C dX11_company_0 rfl ?_
  refine am_iconstN (pc := 1) (k := 0) C dX11_company_1 ?_
  refine am_bipush (pc := 2) (v := nI 12) C dX11_company_2 (by decide) ?_
  refine am_callSXc (Y := mX11_needNumber) (pc := 4) (st := []) (As := [.int n, .int (nI 0), .int (nI 12)]) (cz := (1, 6)) C dX11_company_4 k11_234 v_X11_needNumber rfl rfl (by decide) (Nat.le_of_ble_eq_true rfl) (Nat.le_of_ble_eq_true rfl) (Nat.le_of_ble_eq_true rfl) (c_X11_needNumber hR n 0 12) rfl (fun E9 r9 h9 hx9 => ?_) (fun v9 r9 h9 hq9 => ?_)
  · obtain ⟨hx9, rfl, rfl⟩ := hx9
    obtain ⟨f4_0, rfl⟩ := hx9
    · exact (TX "java/lang/IllegalArgumentException" r h ⟨0, (show rf_c_company w n = 1 from by simp only [rf_c_company, rf_cb, f4_0, Bool.not_true, Bool.not_false, cond_true, cond_false]), rfl, ⟨rfl, (fun _ _ => rfl)⟩⟩ (1, 6) 4 [(0, .ref 0), (1, .int n)] (Nat.le_of_ble_eq_true rfl) (Nat.le_of_ble_eq_true rfl)).1
  obtain ⟨f4_0, rfl, rfl, rfl⟩ := hq9
  show am_G X (am_VV ad) (1, 6) 7 [(0, .ref 0), (1, .int n)] [] r h
  obtain ⟨nA, mA⟩ := rf_in_n0 (b := 12) (by decide) f4_0
  refine am_lsv (ls' := [(0, .ref 0), (1, .int (nI (rf_nat n)))]) (congrArg (fun z9 : Int32 => ([(0, .ref 0), (1, Value.int z9)] : List (Nat × Value))) (show n = (nI (rf_nat n)) from nA)) ?_
  refine am_aload_n (pc := 7) C dX11_company_7 rfl ?_
  refine am_getR (pc := 8) (j := 314) C dX11_company_8 f11_78 bn_0 sh_0 (rf_0_8 hR) ?_
  refine am_iload_n (pc := 11) C dX11_company_11 rfl ?_
  refine am_callVi (Y := mX6_obeyedByChildren) (pc := 12) (st := []) (As := [.int (nI (rf_nat n))]) (x := (rf_obeyed w (rf_nat n))) (h2 := h) C dX11_company_12 k11_361 v_X6_obeyedByChildren rfl rfl bn_314 sh_314 ⟨by decide, rfl⟩ (by decide) (Nat.le_of_ble_eq_true rfl) (Nat.le_of_ble_eq_true rfl) (Nat.le_of_ble_eq_true rfl) (c_X6_obeyedByChildren hR (rf_nat n) w hV hLo hSc (show (rf_nat n) < 1000 from by omega)) ?_
  have K9 : rf_c_company w n = 0 := (show rf_c_company w n = 0 from by simp only [rf_c_company, rf_cb, f4_0, Bool.not_true, Bool.not_false, cond_true, cond_false])
  have A9 : rf_a_company w n = (rf_obeyed w (rf_nat n)) := rfl
  exact am_iret T dX11_company_15 rfl rfl (Nat.le_of_ble_eq_true rfl) (Nat.le_of_ble_eq_true rfl) ⟨K9, by rw [A9], ⟨rfl, (fun _ _ => rfl)⟩⟩

set_option maxHeartbeats 400000 in
set_option maxRecDepth 100000 in
theorem c_X11_duel {ad : Nat → Nat} {r : am_R} (hR : am_rs r) {h : am_H} (a : Int32) (b : Int32) (w : rf_W) (hV : rf_I w) (hLo : cl_Lo (h) 4 w) (hSc : cl_Sc (h) 25 w)  : am_XM mX11_duel 8 3 18 [.ref 0, .int a, .int b] (am_VV ad) r h (ex_ret (rf_c_duel w a b) (rf_a_duel w a b) (fun r9 h9 => r9 = r ∧ cl_k h h9)) (ex_thr ["java/lang/IndexOutOfBoundsException", "java/lang/IllegalArgumentException"] (rf_c_duel w a b) (fun r9 h9 => r9 = r ∧ cl_k h h9)) := by
  refine am_XM.of (by decide +kernel) (Nat.le_of_ble_eq_true rfl) (by decide) (fun X C T TX => ?_)
  show am_G X (am_VV ad) (0, 0) 0 [(0, .ref 0), (1, .int a), (2, .int b)] [] r h
  have hM9 : rf_M w < 17 := hV.1.1.2
  have hS9 : rf_S w < 11 := hV.1.2.1.2
  have hO9 : rf_O w < 11 := hV.1.2.2.2
  refine am_aload_n (pc := 0) C dX11_duel_0 rfl ?_
  refine am_iload_n (pc := 1) C dX11_duel_1 rfl ?_
  refine am_iload_n (pc := 2) C dX11_duel_2 rfl ?_
  refine am_callVXc (Y := mX11_needTwo) (pc := 3) (st := []) (As := [.int a, .int b]) (cz := (3, 18)) C dX11_duel_3 k11_281 v_X11_needTwo rfl rfl bn_0 sh_0 ⟨by decide, rfl⟩ (by decide) (Nat.le_of_ble_eq_true rfl) (Nat.le_of_ble_eq_true rfl) (Nat.le_of_ble_eq_true rfl) (c_X11_needTwo hR a b w hV hLo) rfl (fun E9 r9 h9 hx9 => ?_) (fun v9 r9 h9 hq9 => ?_)
  · obtain ⟨hx9, rfl, rfl⟩ := hx9
    rcases hx9 with ⟨f3_0, rfl⟩ | ⟨f3_0, f3_1, rfl⟩ | ⟨f3_0, f3_1, f3_2, rfl⟩
    · exact (TX "java/lang/IndexOutOfBoundsException" r h ⟨0, (show rf_c_duel w a b = 1 from by simp only [rf_c_duel, rf_cb, f3_0, Bool.not_true, Bool.not_false, cond_true, cond_false]), rfl, ⟨rfl, (fun _ _ => rfl)⟩⟩ (3, 18) 3 [(0, .ref 0), (1, .int a), (2, .int b)] (Nat.le_of_ble_eq_true rfl) (Nat.le_of_ble_eq_true rfl)).1
    · exact (TX "java/lang/IndexOutOfBoundsException" r h ⟨0, (show rf_c_duel w a b = 1 from by simp only [rf_c_duel, rf_cb, f3_0, f3_1, Bool.not_true, Bool.not_false, cond_true, cond_false]), rfl, ⟨rfl, (fun _ _ => rfl)⟩⟩ (3, 18) 3 [(0, .ref 0), (1, .int a), (2, .int b)] (Nat.le_of_ble_eq_true rfl) (Nat.le_of_ble_eq_true rfl)).1
    · exact (TX "java/lang/IllegalArgumentException" r h ⟨1, (show rf_c_duel w a b = 2 from by simp only [rf_c_duel, rf_cb, f3_0, f3_1, f3_2, Bool.not_true, Bool.not_false, cond_true, cond_false]), rfl, ⟨rfl, (fun _ _ => rfl)⟩⟩ (3, 18) 3 [(0, .ref 0), (1, .int a), (2, .int b)] (Nat.le_of_ble_eq_true rfl) (Nat.le_of_ble_eq_true rfl)).1
  obtain ⟨⟨f3_0, f3_1, f3_2⟩, rfl, rfl, rfl⟩ := hq9
  show am_G X (am_VV ad) (3, 18) 6 [(0, .ref 0), (1, .int a), (2, .int b)] [] r h
  have nA := rf_okN_n (show rf_S w < 1073741824 by omega) f3_0
  have mA : rf_nat a < rf_S w := nA.2
  have nB := rf_okN_n (show rf_S w < 1073741824 by omega) f3_1
  have mB : rf_nat b < rf_S w := nB.2
  refine am_lsv (ls' := [(0, .ref 0), (1, .int (nI (rf_nat a))), (2, .int b)]) (congrArg (fun z9 : Int32 => ([(0, .ref 0), (1, Value.int z9), (2, .int b)] : List (Nat × Value))) (show a = (nI (rf_nat a)) from nA.1)) ?_
  refine am_lsv (ls' := [(0, .ref 0), (1, .int (nI (rf_nat a))), (2, .int (nI (rf_nat b)))]) (congrArg (fun z9 : Int32 => ([(0, .ref 0), (1, .int (nI (rf_nat a))), (2, Value.int z9)] : List (Nat × Value))) (show b = (nI (rf_nat b)) from nB.1)) ?_
  refine am_aload_n (pc := 6) C dX11_duel_6 rfl ?_
  refine am_getR (pc := 7) (j := 314) C dX11_duel_7 f11_78 bn_0 sh_0 (rf_0_8 hR) ?_
  refine am_iload_n (pc := 10) C dX11_duel_10 rfl ?_
  refine am_iload_n (pc := 11) C dX11_duel_11 rfl ?_
  refine am_callVi (Y := mX6_tooManyFor) (pc := 12) (st := []) (As := [.int (nI (rf_nat a)), .int (nI (rf_nat b))]) (x := (am_b (rf_many w (rf_nat a) (rf_nat b)))) (h2 := h) C dX11_duel_12 k11_367 v_X6_tooManyFor rfl rfl bn_314 sh_314 ⟨by decide, rfl⟩ (by decide) (Nat.le_of_ble_eq_true rfl) (Nat.le_of_ble_eq_true rfl) (Nat.le_of_ble_eq_true rfl) (c_X6_tooManyFor hR (rf_nat a) (rf_nat b) w hV hLo hSc (show (rf_nat a) < rf_S w from by omega) (show (rf_nat b) < rf_S w from by omega)) ?_
  refine am_if_eqB (pc := 15) (tgt := 21) C dX11_duel_15 (by decide) (fun q15 => ?_) (fun q15 => ?_)
  · skip
    refine am_aload_n (pc := 21) C dX11_duel_21 rfl ?_
    refine am_getR (pc := 22) (j := 314) C dX11_duel_22 f11_78 bn_0 sh_0 (rf_0_8 hR) ?_
    refine am_iload_n (pc := 25) C dX11_duel_25 rfl ?_
    refine am_iload_n (pc := 26) C dX11_duel_26 rfl ?_
    refine am_callVi (Y := mX6_beginnerWins) (pc := 27) (st := []) (As := [.int (nI (rf_nat a)), .int (nI (rf_nat b))]) (x := (am_b (rf_race (rf_bc (rf_roots w (rf_known w (rf_nat a)))) (rf_bc (rf_roots w (rf_known w (rf_nat b))))))) (h2 := h) C dX11_duel_27 k11_370 v_X6_beginnerWins rfl rfl bn_314 sh_314 ⟨by decide, rfl⟩ (by decide) (Nat.le_of_ble_eq_true rfl) (Nat.le_of_ble_eq_true rfl) (Nat.le_of_ble_eq_true rfl) (c_X6_beginnerWins hR (rf_nat a) (rf_nat b) w hV hLo hSc (show (rf_nat a) < rf_S w from by omega) (show (rf_nat b) < rf_S w from by omega)) ?_
    refine am_if_eqB (pc := 30) (tgt := 37) C dX11_duel_30 (by decide) (fun q30 => ?_) (fun q30 => ?_)
    · skip
      refine am_iload_n (pc := 37) C dX11_duel_37 rfl ?_
      have K9 : rf_c_duel w a b = 0 := (show rf_c_duel w a b = 0 from by simp only [rf_c_duel, rf_cb, f3_0, f3_1, f3_2, Bool.not_true, Bool.not_false, cond_true, cond_false])
      have A9 : rf_a_duel w a b = (nI (rf_nat b)) := (by rw [rf_a_duel, q15, cl_duel hV mA mB q15, q30]; rfl)
      exact am_iret T dX11_duel_38 rfl rfl (Nat.le_of_ble_eq_true rfl) (Nat.le_of_ble_eq_true rfl) ⟨K9, by rw [A9], ⟨rfl, (fun _ _ => rfl)⟩⟩
    · skip
      refine am_iload_n (pc := 33) C dX11_duel_33 rfl ?_
      refine am_goto (pc := 34) (tgt := 38) C dX11_duel_34 (by decide) ?_
      have K9 : rf_c_duel w a b = 0 := (show rf_c_duel w a b = 0 from by simp only [rf_c_duel, rf_cb, f3_0, f3_1, f3_2, Bool.not_true, Bool.not_false, cond_true, cond_false])
      have A9 : rf_a_duel w a b = (nI (rf_nat a)) := (by rw [rf_a_duel, q15, cl_duel hV mA mB q15, q30]; rfl)
      exact am_iret T dX11_duel_38 rfl rfl (Nat.le_of_ble_eq_true rfl) (Nat.le_of_ble_eq_true rfl) ⟨K9, by rw [A9], ⟨rfl, (fun _ _ => rfl)⟩⟩
  · skip
    refine am_bipush (pc := 18) (v := -3) C dX11_duel_18 (by decide) ?_
    have K9 : rf_c_duel w a b = 0 := (show rf_c_duel w a b = 0 from by simp only [rf_c_duel, rf_cb, f3_0, f3_1, f3_2, Bool.not_true, Bool.not_false, cond_true, cond_false])
    have A9 : rf_a_duel w a b = (-3) := (by rw [rf_a_duel, q15]; rfl)
    exact am_iret T dX11_duel_20 rfl rfl (Nat.le_of_ble_eq_true rfl) (Nat.le_of_ble_eq_true rfl) ⟨K9, by rw [A9], ⟨rfl, (fun _ _ => rfl)⟩⟩

set_option maxHeartbeats 400000 in
set_option maxRecDepth 100000 in
theorem c_X11_best {ad : Nat → Nat} {r : am_R} (hR : am_rs r) {h : am_H} (a : Int32) (b : Int32) (w : rf_W) (hV : rf_I w) (hLo : cl_Lo (h) 4 w) (hSc : cl_Sc (h) 25 w)  : am_XM mX11_best 8 3 18 [.ref 0, .int a, .int b] (am_VV ad) r h (ex_ret (rf_c_best w a b) (rf_a_best w a b) (fun r9 h9 => r9 = r ∧ cl_k h h9)) (ex_thr ["java/lang/IndexOutOfBoundsException", "java/lang/IllegalArgumentException"] (rf_c_best w a b) (fun r9 h9 => r9 = r ∧ cl_k h h9)) := by
  refine am_XM.of (by decide +kernel) (Nat.le_of_ble_eq_true rfl) (by decide) (fun X C T TX => ?_)
  show am_G X (am_VV ad) (0, 0) 0 [(0, .ref 0), (1, .int a), (2, .int b)] [] r h
  have hM9 : rf_M w < 17 := hV.1.1.2
  have hS9 : rf_S w < 11 := hV.1.2.1.2
  have hO9 : rf_O w < 11 := hV.1.2.2.2
  refine am_aload_n (pc := 0) C dX11_best_0 rfl ?_
  refine am_iload_n (pc := 1) C dX11_best_1 rfl ?_
  refine am_iload_n (pc := 2) C dX11_best_2 rfl ?_
  refine am_callVXc (Y := mX11_needTwo) (pc := 3) (st := []) (As := [.int a, .int b]) (cz := (3, 18)) C dX11_best_3 k11_281 v_X11_needTwo rfl rfl bn_0 sh_0 ⟨by decide, rfl⟩ (by decide) (Nat.le_of_ble_eq_true rfl) (Nat.le_of_ble_eq_true rfl) (Nat.le_of_ble_eq_true rfl) (c_X11_needTwo hR a b w hV hLo) rfl (fun E9 r9 h9 hx9 => ?_) (fun v9 r9 h9 hq9 => ?_)
  · obtain ⟨hx9, rfl, rfl⟩ := hx9
    rcases hx9 with ⟨f3_0, rfl⟩ | ⟨f3_0, f3_1, rfl⟩ | ⟨f3_0, f3_1, f3_2, rfl⟩
    · exact (TX "java/lang/IndexOutOfBoundsException" r h ⟨0, (show rf_c_best w a b = 1 from by simp only [rf_c_best, rf_cb, f3_0, Bool.not_true, Bool.not_false, cond_true, cond_false]), rfl, ⟨rfl, (fun _ _ => rfl)⟩⟩ (3, 18) 3 [(0, .ref 0), (1, .int a), (2, .int b)] (Nat.le_of_ble_eq_true rfl) (Nat.le_of_ble_eq_true rfl)).1
    · exact (TX "java/lang/IndexOutOfBoundsException" r h ⟨0, (show rf_c_best w a b = 1 from by simp only [rf_c_best, rf_cb, f3_0, f3_1, Bool.not_true, Bool.not_false, cond_true, cond_false]), rfl, ⟨rfl, (fun _ _ => rfl)⟩⟩ (3, 18) 3 [(0, .ref 0), (1, .int a), (2, .int b)] (Nat.le_of_ble_eq_true rfl) (Nat.le_of_ble_eq_true rfl)).1
    · exact (TX "java/lang/IllegalArgumentException" r h ⟨1, (show rf_c_best w a b = 2 from by simp only [rf_c_best, rf_cb, f3_0, f3_1, f3_2, Bool.not_true, Bool.not_false, cond_true, cond_false]), rfl, ⟨rfl, (fun _ _ => rfl)⟩⟩ (3, 18) 3 [(0, .ref 0), (1, .int a), (2, .int b)] (Nat.le_of_ble_eq_true rfl) (Nat.le_of_ble_eq_true rfl)).1
  obtain ⟨⟨f3_0, f3_1, f3_2⟩, rfl, rfl, rfl⟩ := hq9
  show am_G X (am_VV ad) (3, 18) 6 [(0, .ref 0), (1, .int a), (2, .int b)] [] r h
  have nA := rf_okN_n (show rf_S w < 1073741824 by omega) f3_0
  have mA : rf_nat a < rf_S w := nA.2
  have nB := rf_okN_n (show rf_S w < 1073741824 by omega) f3_1
  have mB : rf_nat b < rf_S w := nB.2
  refine am_lsv (ls' := [(0, .ref 0), (1, .int (nI (rf_nat a))), (2, .int b)]) (congrArg (fun z9 : Int32 => ([(0, .ref 0), (1, Value.int z9), (2, .int b)] : List (Nat × Value))) (show a = (nI (rf_nat a)) from nA.1)) ?_
  refine am_lsv (ls' := [(0, .ref 0), (1, .int (nI (rf_nat a))), (2, .int (nI (rf_nat b)))]) (congrArg (fun z9 : Int32 => ([(0, .ref 0), (1, .int (nI (rf_nat a))), (2, Value.int z9)] : List (Nat × Value))) (show b = (nI (rf_nat b)) from nB.1)) ?_
  refine am_aload_n (pc := 6) C dX11_best_6 rfl ?_
  refine am_getR (pc := 7) (j := 314) C dX11_best_7 f11_78 bn_0 sh_0 (rf_0_8 hR) ?_
  refine am_iload_n (pc := 10) C dX11_best_10 rfl ?_
  refine am_iload_n (pc := 11) C dX11_best_11 rfl ?_
  refine am_callVi (Y := mX6_tooManyFor) (pc := 12) (st := []) (As := [.int (nI (rf_nat a)), .int (nI (rf_nat b))]) (x := (am_b (rf_many w (rf_nat a) (rf_nat b)))) (h2 := h) C dX11_best_12 k11_367 v_X6_tooManyFor rfl rfl bn_314 sh_314 ⟨by decide, rfl⟩ (by decide) (Nat.le_of_ble_eq_true rfl) (Nat.le_of_ble_eq_true rfl) (Nat.le_of_ble_eq_true rfl) (c_X6_tooManyFor hR (rf_nat a) (rf_nat b) w hV hLo hSc (show (rf_nat a) < rf_S w from by omega) (show (rf_nat b) < rf_S w from by omega)) ?_
  refine am_if_eqB (pc := 15) (tgt := 23) C dX11_best_15 (by decide) (fun q15 => ?_) (fun q15 => ?_)
  · skip
    refine am_aload_n (pc := 23) C dX11_best_23 rfl ?_
    refine am_getR (pc := 24) (j := 314) C dX11_best_24 f11_78 bn_0 sh_0 (rf_0_8 hR) ?_
    refine am_iload_n (pc := 27) C dX11_best_27 rfl ?_
    refine am_iload_n (pc := 28) C dX11_best_28 rfl ?_
    refine am_callVi (Y := mX6_winningHit) (pc := 29) (st := []) (As := [.int (nI (rf_nat a)), .int (nI (rf_nat b))]) (x := (if rf_bc (rf_roots w (rf_known w (rf_nat a))) < 1 then -1 else rf_sea (fun m => am_bt (rf_known w (rf_nat b)) m && !rf_race (rf_bc (rf_roots w (rf_known w (rf_nat b)) &&& ((nI 1 <<< (nI m &&& 31)) ^^^ (-1)))) (rf_bc (rf_roots w (rf_known w (rf_nat a))))) (fun m => nI m) (rf_M w) 0)) (h2 := h) C dX11_best_29 k11_373 v_X6_winningHit rfl rfl bn_314 sh_314 ⟨by decide, rfl⟩ (by decide) (Nat.le_of_ble_eq_true rfl) (Nat.le_of_ble_eq_true rfl) (Nat.le_of_ble_eq_true rfl) (c_X6_winningHit hR (rf_nat a) (rf_nat b) w hV hLo hSc (show (rf_nat a) < rf_S w from by omega) (show (rf_nat b) < rf_S w from by omega)) ?_
    have K9 : rf_c_best w a b = 0 := (show rf_c_best w a b = 0 from by simp only [rf_c_best, rf_cb, f3_0, f3_1, f3_2, Bool.not_true, Bool.not_false, cond_true, cond_false])
    have A9 : rf_a_best w a b = (if rf_bc (rf_roots w (rf_known w (rf_nat a))) < 1 then -1 else rf_sea (fun m => am_bt (rf_known w (rf_nat b)) m && !rf_race (rf_bc (rf_roots w (rf_known w (rf_nat b)) &&& ((nI 1 <<< (nI m &&& 31)) ^^^ (-1)))) (rf_bc (rf_roots w (rf_known w (rf_nat a))))) (fun m => nI m) (rf_M w) 0) := (by rw [rf_a_best, q15]; exact cl_bestA hV mA mB q15)
    exact am_iret T dX11_best_32 rfl rfl (Nat.le_of_ble_eq_true rfl) (Nat.le_of_ble_eq_true rfl) ⟨K9, by rw [A9], ⟨rfl, (fun _ _ => rfl)⟩⟩
  · skip
    refine am_bipush (pc := 18) (v := -3) C dX11_best_18 (by decide) ?_
    refine am_goto (pc := 20) (tgt := 32) C dX11_best_20 (by decide) ?_
    have K9 : rf_c_best w a b = 0 := (show rf_c_best w a b = 0 from by simp only [rf_c_best, rf_cb, f3_0, f3_1, f3_2, Bool.not_true, Bool.not_false, cond_true, cond_false])
    have A9 : rf_a_best w a b = (-3) := (by rw [rf_a_best, q15]; rfl)
    exact am_iret T dX11_best_32 rfl rfl (Nat.le_of_ble_eq_true rfl) (Nat.le_of_ble_eq_true rfl) ⟨K9, by rw [A9], ⟨rfl, (fun _ _ => rfl)⟩⟩

