/-! THE CLASS: who knows what, one soldier more -/
section M49
def cl_kn (t : rf_W) (s n f : Nat) (q w : rf_W) : Bool × rf_W × rf_W := if n = 0 ∨ rf_rFig t q = true then rf_kns t s f q w else (true, q, w)
theorem cl_new_f {x : Int32} {m k : Nat} (h : ((!am_bt x m) && decide (k < 12)) = false) (hk : k < 13) : am_bt x m = true ∨ k = 12 := by
  rcases Bool.and_eq_false_iff.mp h with a | a
  · exact Or.inl (by cases hb : am_bt x m with | true => rfl | false => rw [hb] at a; exact absurd a.symm Bool.false_ne_true)
  · exact Or.inr (by have := of_decide_eq_false a; omega)
theorem cl_kn_go {t w q : rf_W} {s n : Nat} (hT : rf_To (rf_oNum t q)) (hf : rf_rFig t q = true) (hr : rf_rM t q w ≠ 0) (hb : am_bt (rf_known w s) (rf_rM t q w - 1) = false) (hk : rf_kn w s ≠ 12) (hn : n < 401) : cl_kn t s n (402 - n) q w = cl_kn t s (n + 1) (402 - (n + 1)) (rf_oBl t (rf_oNum t q)) (rf_app w s (rf_rM t q w - 1)) := by
  rw [cl_kn, if_pos (Or.inr hf), show 402 - n = (402 - (n + 1)) + 1 by omega, rf_kns, if_neg (fun z => z.elim hr (fun z => z.elim (fun y => Bool.false_ne_true (hb.symm.trans y)) hk)), cl_kn, cl_fig_bl hT]
  cases hz : rf_rFig t (rf_oNum t q) with
  | true => rw [if_pos (Or.inr rfl)]; rfl
  | false => rw [if_neg (fun z => z.elim (fun y => absurd y (by omega)) (fun y => Bool.false_ne_true y))]; rfl
theorem cl_kn_bad {t w q : rf_W} {s n : Nat} (hf : n = 0 ∨ rf_rFig t q = true) (hr : rf_rM t q w = 0 ∨ am_bt (rf_known w s) (rf_rM t q w - 1) = true ∨ rf_kn w s = 12) (hn : n < 401) : cl_kn t s n (402 - n) q w = (false, rf_oNum t q, w) := by
  rw [cl_kn, if_pos hf, show 402 - n = (402 - (n + 1)) + 1 by omega, rf_kns, if_pos hr]
theorem cl_kn_end {t w q : rf_W} {s n f : Nat} (hn : n ≠ 0) (hf : rf_rFig t q = false) : cl_kn t s n f q w = (true, q, w) := by
  rw [cl_kn, if_neg (fun z => z.elim hn (fun y => Bool.false_ne_true (hf.symm.trans y)))]
theorem rf_app_kn {w : rf_W} {s m : Nat} (hk : rf_kn w s < 2147483647) : rf_kn (rf_app w s m) s = rf_kn w s + 1 := by
  rw [rf_kn, rf_ofn, rf_of, rf_app, rf_upd_eq, rf_nat_nI (by omega)]
theorem cl_knh {g : am_H} {w : rf_W} {s m : Nat} (hI : rf_I w) (hs : s < rf_S w) (hk : rf_kn w s < 12) (hm : m < rf_M w) (L : cl_Lo g 57 w) (S : cl_Sc g 78 w) : ∀ H : am_H, H = (am_row (am_row (am_row (am_row g 84 (upd (g 84) (s * 12 + rf_kn w s) (nI m))) 81 (upd (g 81) s (nI (rf_kn w s + 1)))) 82 (upd (g 82) s (rf_known w s ||| (nI 1 <<< (nI m &&& 31))))) 83 (upd (g 83) s (rf_usable w (rf_known w s ||| (nI 1 <<< (nI m &&& 31)))))) → cl_Lo H 57 (rf_app w s m) ∧ cl_Sc H 78 (rf_app w s m) := by
  intro H hH
  have hS : rf_S w < 11 := hI.1.2.1.2
  have e3 : H 81 = upd (g 81) s (nI (rf_kn w s + 1)) := by rw [hH, am_row_ne _ _ _ (by decide), am_row_ne _ _ _ (by decide), am_row_at]
  have e4 : H 82 = upd (g 82) s (rf_known w s ||| (nI 1 <<< (nI m &&& 31))) := by rw [hH, am_row_ne _ _ _ (by decide), am_row_at]
  have e5 : H 83 = upd (g 83) s (rf_usable w (rf_known w s ||| (nI 1 <<< (nI m &&& 31)))) := by rw [hH, am_row_at]
  have e6 : H 84 = upd (g 84) (s * 12 + rf_kn w s) (nI m) := by rw [hH, am_row_ne _ _ _ (by decide), am_row_ne _ _ _ (by decide), am_row_ne _ _ _ (by decide), am_row_at]
  have eo : ∀ i, i < 81 ∨ 85 ≤ i → H i = g i := fun i h => by rw [hH, am_row_ne _ _ _ (by omega), am_row_ne _ _ _ (by omega), am_row_ne _ _ _ (by omega), am_row_ne _ _ _ (by omega)]
  exact ⟨cl_Lo_Es hI (rf_Es_app (by omega) hk) (cl_Lo_eq (fun i a b => eo i (by omega)) L), cl_Sc_app (b := 78) hI hs hk hm S (eo 78 (by omega)) (eo 79 (by omega)) (eo 80 (by omega)) e3 e4 e5 e6 (fun i a b => eo _ (by omega))⟩
/-! the way in -/
def cl_wa (t : rf_W) (s n : Nat) (q w : rf_W) : Bool × rf_W × rf_W := if n = 0 ∨ rf_rFig t q = true then rf_way t s (7 - n) n q w else (true, q, upd (upd w (61 + 23 * s + 2) (nI n)) 1 (nI (s + 1)))
theorem cl_wa_go {t w q : rf_W} {s n : Nat} (hT : rf_To (rf_oNum t q)) (hf : rf_rFig t q = true) (hr : rf_rNum t q 0 (nI 7) ≠ 0) (hn : n < 6) : cl_wa t s n q w = cl_wa t s (n + 1) (rf_oBl t (rf_oNum t q)) (upd w (61 + 23 * s + (3 + n)) (nI (rf_rNum t q 0 (nI 7) - 1))) := by
  rw [cl_wa, if_pos (Or.inr hf), show 7 - n = (7 - (n + 1)) + 1 by omega, rf_way, if_neg (fun z => z.elim hr (fun y => absurd y (by omega))), cl_wa, cl_fig_bl hT]
  cases hz : rf_rFig t (rf_oNum t q) with
  | true => rw [if_pos (Or.inr rfl)]; rfl
  | false => rw [if_neg (fun z => z.elim (fun y => absurd y (by omega)) (fun y => Bool.false_ne_true y))]; rfl
theorem cl_wa_bad {t w q : rf_W} {s n : Nat} (hf : n = 0 ∨ rf_rFig t q = true) (hr : rf_rNum t q 0 (nI 7) = 0 ∨ n = 6) (hn : n < 7) : cl_wa t s n q w = (false, rf_oNum t q, w) := by
  rw [cl_wa, if_pos hf, show 7 - n = (7 - (n + 1)) + 1 by omega, rf_way, if_pos hr]
theorem cl_wa_end {t w q : rf_W} {s n : Nat} (hn : n ≠ 0) (hf : rf_rFig t q = false) : cl_wa t s n q w = (true, q, upd (upd w (61 + 23 * s + 2) (nI n)) 1 (nI (s + 1))) := by
  rw [cl_wa, if_neg (fun z => z.elim hn (fun y => Bool.false_ne_true (hf.symm.trans y)))]
theorem cl_way9 {g gk : am_H} {w : rf_W} {s n : Nat} {v : Int32} (e : g 66 = (am_row gk 66 (upd (gk 66) (s * 6 + n) v)) 66) (h9 : ∀ k, k < n → (gk 66) (s * 6 + k) = rf_of w s (3 + k)) : ∀ k, k < n + 1 → (g 66) (s * 6 + k) = rf_of (upd w (61 + 23 * s + (3 + n)) v) s (3 + k) := fun k hk => by
  rw [e, am_row_at]
  by_cases q : k = n
  · rw [q, rf_upd_eq, rf_of, rf_upd_eq]
  · rw [rf_upd_ne (by omega), rf_of_upd (by omega)]; exact h9 k (by omega)
theorem cl_In_Wy {w w' : rf_W} {s n : Nat} (hn0 : n ≠ 0) (hn6 : n ≤ 6) (h : rf_Wy w s n w') : rf_In w s (upd (upd w' (61 + 23 * s + 2) (nI n)) 1 (nI (s + 1))) := by
  obtain ⟨h1, h2, h3, h4⟩ := h
  refine ⟨fun a ha hb => ?_, rf_upd_eq, ?_, ⟨n, by omega, by omega, ?_, fun j hj => ?_⟩, fun k hk => ?_⟩
  · rw [rf_upd_ne ha, rf_upd_ne (by omega)]; exact h1 a hb
  · rw [rf_of_upd (by omega), rf_of_upd (by omega)]; exact h2
  · rw [rf_of_upd (by omega), rf_of, rf_upd_eq]
  · rw [rf_of_upd (by omega), rf_of_upd (by omega)]; exact h3 j hj
  · rw [rf_of_upd (by omega), rf_of_upd (by omega)]; exact h4 k (by omega)
theorem cl_soldh {h g : am_H} {w wv : rf_W} {n : Nat} (hV : rf_I w) (h10 : rf_S w < 10) (hn0 : n ≠ 0) (hn6 : n ≤ 6) (hWy : rf_Wy w (rf_S w) n wv) (hr6 : (g 63) (rf_S w) = rf_of wv (rf_S w) 0) (hq6 : ∀ s, s < rf_S w → (g 63) s = (h 63) s) (hr9 : ∀ k, k < n → (g 66) (rf_S w * 6 + k) = rf_of wv (rf_S w) (3 + k)) (hq9 : ∀ j, j < rf_S w * 6 → (g 66) j = (h 66) j) (hF : ∀ i, i ≠ 1 ∧ i ≠ 63 ∧ i ≠ 66 → g i = h i) (L : cl_Lo h 57 w) (S : cl_Sc h 78 w) : ∀ H : am_H, H = (am_row (am_row (am_row (am_row (am_row (am_row (am_row (am_row g 65 (upd (g 65) (rf_S w) (nI n))) 64 (upd (g 64) (rf_S w) (nI 0))) 57 (upd (g 57) 2 (nI (rf_S w + 1)))) 79 (upd (g 79) (rf_S w) (nI 0))) 80 (upd (g 80) (rf_S w) ((g 66) (rf_S w * 6)))) 81 (upd (g 81) (rf_S w) (nI 0))) 82 (upd (g 82) (rf_S w) (nI 0))) 83 (upd (g 83) (rf_S w) (nI 0))) → cl_Lo H 57 (upd (upd wv (61 + 23 * rf_S w + 2) (nI n)) 1 (nI (rf_S w + 1))) ∧ cl_Sc H 78 (upd (upd wv (61 + 23 * rf_S w + 2) (nI n)) 1 (nI (rf_S w + 1))) := by
  intro H hH
  have hIn := cl_In_Wy hn0 hn6 hWy
  have w0 : rf_of (upd (upd wv (61 + 23 * rf_S w + 2) (nI n)) 1 (nI (rf_S w + 1))) (rf_S w) 0 = rf_of wv (rf_S w) 0 := by rw [rf_of_upd (by omega), rf_of_upd (by omega)]
  have w2 : rf_of (upd (upd wv (61 + 23 * rf_S w + 2) (nI n)) 1 (nI (rf_S w + 1))) (rf_S w) 2 = nI n := by rw [rf_of_upd (by omega), rf_of, rf_upd_eq]
  have w3 : ∀ k, rf_of (upd (upd wv (61 + 23 * rf_S w + 2) (nI n)) 1 (nI (rf_S w + 1))) (rf_S w) (3 + k) = rf_of wv (rf_S w) (3 + k) := fun k => by rw [rf_of_upd (by omega), rf_of_upd (by omega)]
  generalize upd (upd wv (61 + 23 * rf_S w + 2) (nI n)) 1 (nI (rf_S w + 1)) = w' at hIn w0 w2 w3 ⊢
  have eo : ∀ i, (i < 57 ∨ (57 < i ∧ i < 64) ∨ (65 < i ∧ i < 79) ∨ 83 < i) → H i = g i := fun i hi => by rw [hH, am_row_ne _ _ _ (by omega), am_row_ne _ _ _ (by omega), am_row_ne _ _ _ (by omega), am_row_ne _ _ _ (by omega), am_row_ne _ _ _ (by omega), am_row_ne _ _ _ (by omega), am_row_ne _ _ _ (by omega), am_row_ne _ _ _ (by omega)]
  have a57 : H 57 = upd (g 57) 2 (nI (rf_S w + 1)) := by rw [hH, am_row_ne _ _ _ (by decide), am_row_ne _ _ _ (by decide), am_row_ne _ _ _ (by decide), am_row_ne _ _ _ (by decide), am_row_ne _ _ _ (by decide), am_row_at]
  have a64 : H 64 = upd (g 64) (rf_S w) (nI 0) := by rw [hH, am_row_ne _ _ _ (by decide), am_row_ne _ _ _ (by decide), am_row_ne _ _ _ (by decide), am_row_ne _ _ _ (by decide), am_row_ne _ _ _ (by decide), am_row_ne _ _ _ (by decide), am_row_at]
  have a65 : H 65 = upd (g 65) (rf_S w) (nI n) := by rw [hH, am_row_ne _ _ _ (by decide), am_row_ne _ _ _ (by decide), am_row_ne _ _ _ (by decide), am_row_ne _ _ _ (by decide), am_row_ne _ _ _ (by decide), am_row_ne _ _ _ (by decide), am_row_ne _ _ _ (by decide), am_row_at]
  have a79 : H 79 = upd (g 79) (rf_S w) (nI 0) := by rw [hH, am_row_ne _ _ _ (by decide), am_row_ne _ _ _ (by decide), am_row_ne _ _ _ (by decide), am_row_ne _ _ _ (by decide), am_row_at]
  have a80 : H 80 = upd (g 80) (rf_S w) ((g 66) (rf_S w * 6)) := by rw [hH, am_row_ne _ _ _ (by decide), am_row_ne _ _ _ (by decide), am_row_ne _ _ _ (by decide), am_row_at]
  have a81 : H 81 = upd (g 81) (rf_S w) (nI 0) := by rw [hH, am_row_ne _ _ _ (by decide), am_row_ne _ _ _ (by decide), am_row_at]
  have a82 : H 82 = upd (g 82) (rf_S w) (nI 0) := by rw [hH, am_row_ne _ _ _ (by decide), am_row_at]
  have a83 : H 83 = upd (g 83) (rf_S w) (nI 0) := by rw [hH, am_row_at]
  have f : ∀ i, i ≠ 1 → i ≠ 63 → i ≠ 66 → g i = h i := fun i a b c => hF i ⟨a, b, c⟩
  refine cl_entered (b := 57) hV h10 hIn L S (by show H 57 = _; rw [a57, f 57 (by decide) (by decide) (by decide)]) (by show H 63 _ = _; rw [eo 63 (by decide), hr6, w0]) (fun s hs => by show H 63 _ = _; rw [eo 63 (by decide)]; exact hq6 s hs) (by show H 64 _ = _; rw [a64, rf_upd_eq]) (fun s hs => by show H 64 _ = _; rw [a64, rf_upd_ne (by omega), f 64 (by decide) (by decide) (by decide)])
    (by show H 65 _ = _; rw [a65, rf_upd_eq, w2]) (fun s hs => by show H 65 _ = _; rw [a65, rf_upd_ne (by omega), f 65 (by decide) (by decide) (by decide)]) (fun k hk => ?_) (fun j hj => by show H 66 _ = _; rw [eo 66 (by decide)]; exact hq9 j hj)
    (by show H 79 _ = _; rw [a79, rf_upd_eq]) (fun s hs => by show H 79 _ = _; rw [a79, rf_upd_ne (by omega), f 79 (by decide) (by decide) (by decide)]) (by show H 80 _ = _; rw [a80, rf_upd_eq]; exact (hr9 0 (by omega)).trans (w3 0).symm) (fun s hs => by show H 80 _ = _; rw [a80, rf_upd_ne (by omega), f 80 (by decide) (by decide) (by decide)])
    (by show H 81 _ = _; rw [a81, rf_upd_eq]) (fun s hs => by show H 81 _ = _; rw [a81, rf_upd_ne (by omega), f 81 (by decide) (by decide) (by decide)]) (by show H 82 _ = _; rw [a82, rf_upd_eq]) (fun s hs => by show H 82 _ = _; rw [a82, rf_upd_ne (by omega), f 82 (by decide) (by decide) (by decide)]) (by show H 83 _ = _; rw [a83, rf_upd_eq]) (fun s hs => by show H 83 _ = _; rw [a83, rf_upd_ne (by omega), f 83 (by decide) (by decide) (by decide)])
    (fun i h1 h2 h3 h4 => by rw [eo i (by omega)]; exact f i (by omega) (by omega) (by omega))
  show H 66 _ = _
  rw [rf_ofn, w2, rf_nat_nI (by omega)] at hk
  rw [eo 66 (by decide), w3 k]; exact hr9 k hk
end M49

set_option maxHeartbeats 400000 in
set_option maxRecDepth 100000 in
theorem c_X9_knowsLine {ad : Nat → Nat} {r : am_R} (hR : am_rs r) {h : am_H}  (t : rf_W) (o : rf_W) (hT : rf_To o) (K : cl_tp (h) t (rf_e o) (rf_b o)) (hs : cl_sp t (rf_e o) (rf_b o) = rf_p o) (w : rf_W) (hV : rf_I w) (hLo : cl_Lo (h) 57 w) (hSc : cl_Sc (h) 78 w)  : am_CM mX9_knowsLine 3 0 0 [.ref 130] (am_VV ad) r h (am_pr (some (.int (am_b ((rf_lnK t o w).1)))) r (fun c9 => cl_LN (h) c9 t (rf_lnK t o w))) := by
  refine am_CM.of (by decide +kernel) (Nat.le_of_ble_eq_true rfl) (fun X C T => ?_)
  show am_G X (am_VV ad) (0, 0) 0 [(0, .ref 130)] [] r h
  have hM9 : rf_M w < 17 := hV.1.1.2
  have hS9 : rf_S w < 11 := hV.1.2.1.2
  have hO9 : rf_O w < 11 := hV.1.2.2.2
  have hTn := rf_Tm_num (t := t) hT
  refine am_aload_n (pc := 0) C dX9_knowsLine_0 rfl ?_
  refine am_getR (pc := 1) (j := 1) C dX9_knowsLine_1 f9_9 bn_130 sh_130 (rf_130_0 hR) ?_
  refine am_callVvr (Y := mX8_advance) (pc := 4) (st := []) (As := []) (PP := fun c9 => cl_to (c9) t o ∧ cl_fr (h) c9 1 1) C dX9_knowsLine_4 k9_87 v_X8_advance rfl rfl bn_1 sh_1 ⟨by decide, rfl⟩ (by decide) (Nat.zero_le _) (Nat.zero_le _) (Nat.le_of_ble_eq_true rfl) (c_X8_adv_p (h := h) hR t o (show cl_tp (h) t (rf_e o) (rf_b o) from K) (show cl_sp t (rf_e o) (rf_b o) = rf_p o from hs) (show rf_To o from hT)) (fun g4_0 hg4_0 => ?_)
  obtain ⟨K4, F4⟩ := hg4_0
  have L4 := cl_Lo_eq (fun i a b => F4 i (by omega)) hLo
  have S4 := cl_Sc_eq (fun i a b => F4 i (by omega)) hSc
  have W4 : cl_fwt h g4_0 := fun i h9 => (F4 i (by omega)).trans rfl
  refine am_aload_n (pc := 7) C dX9_knowsLine_7 rfl ?_
  refine am_callVi (Y := mX9_isSoldier) (pc := 8) (st := []) (As := []) (x := (am_b (decide (rf_rS t o w ≠ 0)))) (h2 := g4_0) C dX9_knowsLine_8 k9_132 v_X9_isSoldier rfl rfl bn_130 sh_130 ⟨by decide, rfl⟩ (by decide) (Nat.zero_le _) (Nat.zero_le _) (Nat.le_of_ble_eq_true rfl) (c_X9_isSoldier (h := g4_0) hR t o (show cl_to (g4_0) t o from K4) w (show rf_I w from hV) (show cl_Lo (g4_0) 57 w from L4)) ?_
  refine am_if_neB (pc := 11) (tgt := 16) C dX9_knowsLine_11 (by decide) (fun q11 => ?_) (fun q11 => ?_)
  · skip
    refine am_aload_n (pc := 16) C dX9_knowsLine_16 rfl ?_
    refine am_getR (pc := 17) (j := 1) C dX9_knowsLine_17 f9_9 bn_130 sh_130 (rf_130_0 hR) ?_
    refine am_getI (pc := 20) C dX9_knowsLine_20 f9_94 bn_1 sh_1 ?_
    refine am_top (show ((g4_0 1) 5) = (nI (rf_rS t o w - 1)) from (cl_to_v K4 (by decide) (of_decide_eq_true q11))) ?_
    refine am_istore_n (pc := 23) (ls' := [(0, .ref 130), (1, .int (nI (rf_rS t o w - 1)))]) C dX9_knowsLine_23 (by decide) rfl ?_
    refine am_aload_n (pc := 24) C dX9_knowsLine_24 rfl ?_
    refine am_getR (pc := 25) (j := 1) C dX9_knowsLine_25 f9_9 bn_130 sh_130 (rf_130_0 hR) ?_
    refine am_callVvr (Y := mX8_advance) (pc := 28) (st := []) (As := []) (PP := fun c9 => cl_to (c9) t (rf_oNum t o) ∧ cl_fr (g4_0) c9 1 1) C dX9_knowsLine_28 k9_87 v_X8_advance rfl rfl bn_1 sh_1 ⟨by decide, rfl⟩ (by decide) (Nat.zero_le _) (Nat.zero_le _) (Nat.le_of_ble_eq_true rfl) (c_X8_adv_n (h := g4_0) hR t o (show cl_to (g4_0) t o from K4) (show rf_To o from hT) 0 (nI (rf_S w) - nI 1) (show 0 < 1000 from (by decide)) (show rf_rNum t o 0 (nI (rf_S w) - nI 1) ≠ 0 from (of_decide_eq_true q11))) (fun g28_1 hg28_1 => ?_)
    obtain ⟨K28, F28⟩ := hg28_1
    have L28 := cl_Lo_eq (fun i a b => F28 i (by omega)) L4
    have S28 := cl_Sc_eq (fun i a b => F28 i (by omega)) S4
    have W28 : cl_fwt h g28_1 := fun i h9 => (F28 i (by omega)).trans (W4 i h9)
    have hrs := rf_rS_le (t := t) (o := o) hS9
    have hr0 : rf_rS t o w ≠ 0 := of_decide_eq_true q11
    refine am_iconstN (pc := 31) (k := 0) C dX9_knowsLine_31 ?_
    refine am_istore_n (pc := 32) (ls' := [(0, .ref 130), (1, .int (nI (rf_rS t o w - 1))), (2, .int (nI 0))]) C dX9_knowsLine_32 (by decide) rfl ?_
    have L33 : ∀ (j33 : Nat) (gk : am_H) (n : Nat) (q : rf_W) (wv : rf_W), (hnj : n + j33 = 13) → (hTq : rf_To q) → (hKq : cl_to gk t q) → (hIw : rf_I wv) → (hSw : rf_S wv = rf_S w) → (hnk : n ≤ rf_kn wv (rf_rS t o w - 1)) → (hLk : cl_Lo gk 57 wv) → (hSk : cl_Sc gk 78 wv) → (hWk : cl_fwt h gk) → (hms : rf_lnK t o w = cl_kn t (rf_rS t o w - 1) n (402 - n) q wv) → am_G X (am_VV ad) (0, 0) 33 [(0, .ref 130), (1, .int (nI (rf_rS t o w - 1))), (2, .int (nI n))] [] r gk := by
      intro j33
      induction j33 with
      | zero =>
        intro gk n q wv hnj hTq hKq hIw hSw hnk hLk hSk hWk hms
        have hk9 : rf_kn wv (rf_rS t o w - 1) < 13 := (hIw.2.1 (rf_rS t o w - 1) (by omega)).2.2.2.2.1.2
        exact absurd hnj (by omega)
      | succ j33 ih33 =>
        intro gk n q wv hnj hTq hKq hIw hSw hnk hLk hSk hWk hms
        have hkd4 : cl_kd t (rf_e q) (rf_SB t q) < 4 := cl_kd_lt
        have hTm := rf_Tm_num (t := t) hTq
        have hTb := rf_Tm_bl (t := t) hTm.1
        have hk9 : rf_kn wv (rf_rS t o w - 1) < 13 := (hIw.2.1 (rf_rS t o w - 1) (by omega)).2.2.2.2.1.2
        have hMw : rf_M wv < 17 := hIw.1.1.2
        have hrm := rf_rM_le (t := t) (o := q) hMw
        refine am_iload_n (pc := 33) C dX9_knowsLine_33 rfl ?_
        refine am_bipush (pc := 34) (v := nI 12) C dX9_knowsLine_34 (by decide) ?_
        refine am_icmp_gtN (pc := 36) (tgt := 105) C dX9_knowsLine_36 (by decide) (by omega) (by omega) (fun q36 => ?_) (fun q36 => ?_)
        · skip
          exact absurd q36 (by omega)
        · skip
          refine am_aload_n (pc := 39) C dX9_knowsLine_39 rfl ?_
          refine am_getR (pc := 40) (j := 1) C dX9_knowsLine_40 f9_9 bn_130 sh_130 (rf_130_0 hR) ?_
          refine am_getI (pc := 43) C dX9_knowsLine_43 f9_31 bn_1 sh_1 ?_
          refine am_top (show ((gk 1) 2) = (nI (cl_kd t (rf_e q) (rf_SB t q))) from (cl_to_k hKq)) ?_
          refine am_iconstN (pc := 46) (k := 2) C dX9_knowsLine_46 ?_
          refine am_icmp_neN (pc := 47) (tgt := 105) C dX9_knowsLine_47 (by decide) (by omega) (by omega) (fun q47 => ?_) (fun q47 => ?_)
          · skip
            refine am_iload_n (pc := 105) C dX9_knowsLine_105 rfl ?_
            refine am_if_leN (pc := 106) (tgt := 113) C dX9_knowsLine_106 (by decide) (by omega) (fun q106 => ?_) (fun q106 => ?_)
            · skip
              have E9 : rf_lnK t o w = (false, rf_oNum t q, wv) := hms.trans (cl_kn_bad (Or.inl (by omega)) (Or.inl (cl_num_z (cl_fig_f q47))) (by omega))
              refine am_iconstN (pc := 113) (k := 0) C dX9_knowsLine_113 ?_
              exact am_iretbr T dX9_knowsLine_114 rfl (Nat.le_refl _) (Nat.le_refl _) (by rw [E9]; rfl) rfl (by rw [E9]; exact ⟨fun z => absurd z Bool.false_ne_true, fun _ => (cl_to_b hKq).trans (congrArg nI (rf_b_num hTq).symm), (fun i h9 => hWk i h9)⟩)
            · skip
              have E9 : rf_lnK t o w = (true, q, wv) := hms.trans (cl_kn_end (by omega) (cl_fig_f q47))
              refine am_iconstN (pc := 109) (k := 1) C dX9_knowsLine_109 ?_
              refine am_goto (pc := 110) (tgt := 114) C dX9_knowsLine_110 (by decide) ?_
              exact am_iretbr T dX9_knowsLine_114 rfl (Nat.le_refl _) (Nat.le_refl _) (by rw [E9]; rfl) rfl (by rw [E9]; exact ⟨fun _ => ⟨hKq, hLk, hSk⟩, fun z => absurd z (fun y => Bool.false_ne_true y.symm), (fun i h9 => hWk i h9)⟩)
          · skip
            refine am_aload_n (pc := 50) C dX9_knowsLine_50 rfl ?_
            refine am_callVi (Y := mX9_isMemory) (pc := 51) (st := []) (As := []) (x := (am_b (decide (rf_rM t q wv ≠ 0)))) (h2 := gk) C dX9_knowsLine_51 k9_135 v_X9_isMemory rfl rfl bn_130 sh_130 ⟨by decide, rfl⟩ (by decide) (Nat.zero_le _) (Nat.zero_le _) (Nat.le_of_ble_eq_true rfl) (c_X9_isMemory (h := gk) hR t q (show cl_to (gk) t q from hKq) wv (show rf_I wv from hIw) (show cl_Lo (gk) 57 wv from hLk)) ?_
            refine am_if_eqB (pc := 54) (tgt := 75) C dX9_knowsLine_54 (by decide) (fun q54 => ?_) (fun q54 => ?_)
            · skip
              refine am_iconstN (pc := 75) (k := 0) C dX9_knowsLine_75 ?_
              have E9 : rf_lnK t o w = (false, rf_oNum t q, wv) := hms.trans (cl_kn_bad (Or.inr (cl_kd_fig.mp q47)) (Or.inl (Classical.not_not.mp (of_decide_eq_false q54))) (by omega))
              exact am_iretbr T dX9_knowsLine_76 rfl (Nat.le_refl _) (Nat.le_refl _) (by rw [E9]; rfl) rfl (by rw [E9]; exact ⟨fun z => absurd z Bool.false_ne_true, fun _ => (cl_to_b hKq).trans (congrArg nI (rf_b_num hTq).symm), (fun i h9 => hWk i h9)⟩)
            · skip
              have hr9 : rf_rM t q wv ≠ 0 := of_decide_eq_true q54
              refine am_aload_n (pc := 57) C dX9_knowsLine_57 rfl ?_
              refine am_getR (pc := 58) (j := 56) C dX9_knowsLine_58 f9_15 bn_130 sh_130 (rf_130_1 hR) ?_
              refine am_iload_n (pc := 61) C dX9_knowsLine_61 rfl ?_
              refine am_aload_n (pc := 62) C dX9_knowsLine_62 rfl ?_
              refine am_getR (pc := 63) (j := 1) C dX9_knowsLine_63 f9_9 bn_130 sh_130 (rf_130_0 hR) ?_
              refine am_getI (pc := 66) C dX9_knowsLine_66 f9_94 bn_1 sh_1 ?_
              refine am_top (show ((gk 1) 5) = (nI (rf_rM t q wv - 1)) from (cl_to_v hKq (by decide) (of_decide_eq_true q54))) ?_
              refine am_callVi (Y := mX10_isNewTo) (pc := 69) (st := []) (As := [.int (nI (rf_rS t o w - 1)), .int (nI (rf_rM t q wv - 1))]) (x := (am_b ((!am_bt (rf_known wv (rf_rS t o w - 1)) (rf_rM t q wv - 1)) && decide (rf_kn wv (rf_rS t o w - 1) < 12)))) (h2 := gk) C dX9_knowsLine_69 k9_138 v_X10_isNewTo rfl rfl bn_56 sh_56 ⟨by decide, rfl⟩ (by decide) (Nat.zero_le _) (Nat.zero_le _) (Nat.le_of_ble_eq_true rfl) (c_X10_isNewTo_d (h := gk) hR (rf_rS t o w - 1) (rf_rM t q wv - 1) wv hIw hLk hSk (show (rf_rS t o w - 1) < rf_S wv from (by omega)) (show (rf_rM t q wv - 1) < 32 from (by omega))) ?_
              refine am_if_neB (pc := 72) (tgt := 77) C dX9_knowsLine_72 (by decide) (fun q72 => ?_) (fun q72 => ?_)
              · skip
                have hnb : am_bt (rf_known wv (rf_rS t o w - 1)) (rf_rM t q wv - 1) = false := by rw [Bool.and_eq_true, Bool.not_eq_true'] at q72; exact q72.1
                have hk12 : rf_kn wv (rf_rS t o w - 1) < 12 := by rw [Bool.and_eq_true, decide_eq_true_eq] at q72; exact q72.2
                refine am_aload_n (pc := 77) C dX9_knowsLine_77 rfl ?_
                refine am_getR (pc := 78) (j := 56) C dX9_knowsLine_78 f9_15 bn_130 sh_130 (rf_130_1 hR) ?_
                refine am_iload_n (pc := 81) C dX9_knowsLine_81 rfl ?_
                refine am_aload_n (pc := 82) C dX9_knowsLine_82 rfl ?_
                refine am_getR (pc := 83) (j := 1) C dX9_knowsLine_83 f9_9 bn_130 sh_130 (rf_130_0 hR) ?_
                refine am_getI (pc := 86) C dX9_knowsLine_86 f9_94 bn_1 sh_1 ?_
                refine am_top (show ((gk 1) 5) = (nI (rf_rM t q wv - 1)) from (cl_to_v hKq (by decide) (of_decide_eq_true q54))) ?_
                refine am_callVv (Y := mX10_addKnown) (pc := 89) (st := []) (As := [.int (nI (rf_rS t o w - 1)), .int (nI (rf_rM t q wv - 1))]) (h2 := (am_row (am_row (am_row (am_row gk 84 (upd (gk 84) ((rf_rS t o w - 1) * 12 + rf_kn wv (rf_rS t o w - 1)) (nI (rf_rM t q wv - 1)))) 81 (upd (gk 81) (rf_rS t o w - 1) (nI (rf_kn wv (rf_rS t o w - 1) + 1)))) 82 (upd (gk 82) (rf_rS t o w - 1) (rf_known wv (rf_rS t o w - 1) ||| (nI 1 <<< (nI (rf_rM t q wv - 1) &&& 31))))) 83 (upd (gk 83) (rf_rS t o w - 1) (rf_usable wv (rf_known wv (rf_rS t o w - 1) ||| (nI 1 <<< (nI (rf_rM t q wv - 1) &&& 31))))))) C dX9_knowsLine_89 k9_141 v_X10_addKnown rfl rfl bn_56 sh_56 ⟨by decide, rfl⟩ (by decide) (Nat.zero_le _) (Nat.zero_le _) (Nat.le_of_ble_eq_true rfl) (c_X10_addKnown_d (h := gk) hR (rf_rS t o w - 1) (rf_rM t q wv - 1) wv hIw hLk hSk (show (rf_rS t o w - 1) < rf_S wv from (by omega)) (show rf_kn wv (rf_rS t o w - 1) < 12 from hk12) (show (rf_rM t q wv - 1) < 32 from (by omega))) ?_
                refine am_aload_n (pc := 92) C dX9_knowsLine_92 rfl ?_
                refine am_getR (pc := 93) (j := 1) C dX9_knowsLine_93 f9_9 bn_130 sh_130 (rf_130_0 hR) ?_
                refine am_callVvr (Y := mX8_advance) (pc := 96) (st := []) (As := []) (PP := fun c9 => cl_to (c9) t (rf_oNum t q) ∧ cl_fr ((am_row (am_row (am_row (am_row gk 84 (upd (gk 84) ((rf_rS t o w - 1) * 12 + rf_kn wv (rf_rS t o w - 1)) (nI (rf_rM t q wv - 1)))) 81 (upd (gk 81) (rf_rS t o w - 1) (nI (rf_kn wv (rf_rS t o w - 1) + 1)))) 82 (upd (gk 82) (rf_rS t o w - 1) (rf_known wv (rf_rS t o w - 1) ||| (nI 1 <<< (nI (rf_rM t q wv - 1) &&& 31))))) 83 (upd (gk 83) (rf_rS t o w - 1) (rf_usable wv (rf_known wv (rf_rS t o w - 1) ||| (nI 1 <<< (nI (rf_rM t q wv - 1) &&& 31))))))) c9 1 1) C dX9_knowsLine_96 k9_87 v_X8_advance rfl rfl bn_1 sh_1 ⟨by decide, rfl⟩ (by decide) (Nat.zero_le _) (Nat.zero_le _) (Nat.le_of_ble_eq_true rfl) (c_X8_adv_n (h := (am_row (am_row (am_row (am_row gk 84 (upd (gk 84) ((rf_rS t o w - 1) * 12 + rf_kn wv (rf_rS t o w - 1)) (nI (rf_rM t q wv - 1)))) 81 (upd (gk 81) (rf_rS t o w - 1) (nI (rf_kn wv (rf_rS t o w - 1) + 1)))) 82 (upd (gk 82) (rf_rS t o w - 1) (rf_known wv (rf_rS t o w - 1) ||| (nI 1 <<< (nI (rf_rM t q wv - 1) &&& 31))))) 83 (upd (gk 83) (rf_rS t o w - 1) (rf_usable wv (rf_known wv (rf_rS t o w - 1) ||| (nI 1 <<< (nI (rf_rM t q wv - 1) &&& 31))))))) hR t q (show cl_to ((am_row (am_row (am_row (am_row gk 84 (upd (gk 84) ((rf_rS t o w - 1) * 12 + rf_kn wv (rf_rS t o w - 1)) (nI (rf_rM t q wv - 1)))) 81 (upd (gk 81) (rf_rS t o w - 1) (nI (rf_kn wv (rf_rS t o w - 1) + 1)))) 82 (upd (gk 82) (rf_rS t o w - 1) (rf_known wv (rf_rS t o w - 1) ||| (nI 1 <<< (nI (rf_rM t q wv - 1) &&& 31))))) 83 (upd (gk 83) (rf_rS t o w - 1) (rf_usable wv (rf_known wv (rf_rS t o w - 1) ||| (nI 1 <<< (nI (rf_rM t q wv - 1) &&& 31))))))) t q from (cl_to_h (by rw [am_row_ne _ _ _ (by decide), am_row_ne _ _ _ (by decide), am_row_ne _ _ _ (by decide), am_row_ne _ _ _ (by decide)]) (by rw [am_row_ne _ _ _ (by decide), am_row_ne _ _ _ (by decide), am_row_ne _ _ _ (by decide), am_row_ne _ _ _ (by decide)]) hKq)) (show rf_To q from hTq) 0 (nI (rf_M wv) - nI 1) (show 0 < 1000 from (by decide)) (show rf_rNum t q 0 (nI (rf_M wv) - nI 1) ≠ 0 from hr9)) (fun g96_3 hg96_3 => ?_)
                obtain ⟨K96, F96⟩ := hg96_3
                refine am_iincN (pc := 99) (ls' := [(0, .ref 130), (1, .int (nI (rf_rS t o w - 1))), (2, .int (nI (n + 1)))]) C dX9_knowsLine_99 rfl (am_up1 _) (by decide) rfl ?_
                refine am_goto (pc := 102) (tgt := 33) C dX9_knowsLine_102 (by decide) ?_
                exact ih33 g96_3 (n + 1) (rf_oBl t (rf_oNum t q)) (rf_app wv (rf_rS t o w - 1) (rf_rM t q wv - 1)) (by omega) hTb.1 (cl_to_eq K96 rf_e_bl (rf_SB_bl hTm.1)) (rf_I_app hIw (by omega) hk12 (by omega) hnb) (by rw [rf_S_app]; exact hSw) (by rw [rf_app_kn (by omega)]; omega) (cl_Lo_eq (fun i a b => F96 i (by omega)) (cl_knh hIw (by omega) (by omega) (by omega) hLk hSk _ rfl).1) (cl_Sc_eq (fun i a b => F96 i (by omega)) (cl_knh hIw (by omega) (by omega) (by omega) hLk hSk _ rfl).2) (fun i h9 => (F96 i (by omega)).trans (by rw [am_row_ne _ _ _ (by omega), am_row_ne _ _ _ (by omega), am_row_ne _ _ _ (by omega), am_row_ne _ _ _ (by omega)]; exact hWk i h9)) (hms.trans (cl_kn_go hTm.1 (cl_kd_fig.mp q47) hr9 hnb (by omega) (by omega)))
              · skip
                refine am_iconstN (pc := 75) (k := 0) C dX9_knowsLine_75 ?_
                have E9 : rf_lnK t o w = (false, rf_oNum t q, wv) := hms.trans (cl_kn_bad (Or.inr (cl_kd_fig.mp q47)) (Or.inr (cl_new_f q72 hk9)) (by omega))
                exact am_iretbr T dX9_knowsLine_76 rfl (Nat.le_refl _) (Nat.le_refl _) (by rw [E9]; rfl) rfl (by rw [E9]; exact ⟨fun z => absurd z Bool.false_ne_true, fun _ => (cl_to_b hKq).trans (congrArg nI (rf_b_num hTq).symm), (fun i h9 => hWk i h9)⟩)
    exact L33 13 g28_1 0 (rf_oNum t o) w (by omega) hTn.1 K28 hV rfl (Nat.zero_le _) L28 S28 W28 (by rw [rf_lnK, if_neg hr0]; rfl)
  · skip
    refine am_iconstN (pc := 14) (k := 0) C dX9_knowsLine_14 ?_
    have E9 : rf_lnK t o w = (false, rf_oNum t o, w) := by rw [rf_lnK, if_pos (Classical.not_not.mp (of_decide_eq_false q11))]
    exact am_iretbr T dX9_knowsLine_15 rfl (Nat.le_refl _) (Nat.le_refl _) (by rw [E9]; rfl) rfl (by rw [E9]; exact ⟨fun z => absurd z Bool.false_ne_true, fun _ => (cl_to_b K4).trans (congrArg nI (rf_b_num hT).symm), (fun i h9 => W4 i h9)⟩)

set_option maxHeartbeats 400000 in
set_option maxRecDepth 100000 in
theorem c_X9_soldierLine {ad : Nat → Nat} {r : am_R} (hR : am_rs r) {h : am_H}  (t : rf_W) (o : rf_W) (hT : rf_To o) (K : cl_tp (h) t (rf_e o) (rf_b o)) (hs : cl_sp t (rf_e o) (rf_b o) = rf_p o) (w : rf_W) (hV : rf_I w) (hLo : cl_Lo (h) 57 w) (hSc : cl_Sc (h) 78 w)  : am_CM mX9_soldierLine 3 0 0 [.ref 130] (am_VV ad) r h (am_pr (some (.int (am_b ((rf_lnS t o w).1)))) r (fun c9 => cl_LN (h) c9 t (rf_lnS t o w))) := by
  refine am_CM.of (by decide +kernel) (Nat.le_of_ble_eq_true rfl) (fun X C T => ?_)
  show am_G X (am_VV ad) (0, 0) 0 [(0, .ref 130)] [] r h
  have hM9 : rf_M w < 17 := hV.1.1.2
  have hS9 : rf_S w < 11 := hV.1.2.1.2
  have hO9 : rf_O w < 11 := hV.1.2.2.2
  have hTn := rf_Tm_num (t := t) hT
  refine am_aload_n (pc := 0) C dX9_soldierLine_0 rfl ?_
  refine am_getR (pc := 1) (j := 57) C dX9_soldierLine_1 f9_25 bn_130 sh_130 (rf_130_2 hR) ?_
  refine am_getI (pc := 4) C dX9_soldierLine_4 f9_109 bn_57 sh_57 ?_
  refine am_top (show ((h 57) 2) = (nI (rf_S w)) from (hLo.1.2.2.1.trans hV.1.2.1.1)) ?_
  refine am_istore_n (pc := 7) (ls' := [(0, .ref 130), (1, .int (nI (rf_S w)))]) C dX9_soldierLine_7 (by decide) rfl ?_
  refine am_iload_n (pc := 8) C dX9_soldierLine_8 rfl ?_
  refine am_bipush (pc := 9) (v := nI 10) C dX9_soldierLine_9 (by decide) ?_
  refine am_icmp_ltN (pc := 11) (tgt := 16) C dX9_soldierLine_11 (by decide) (by omega) (by omega) (fun q11 => ?_) (fun q11 => ?_)
  · skip
    refine am_aload_n (pc := 16) C dX9_soldierLine_16 rfl ?_
    refine am_getR (pc := 17) (j := 1) C dX9_soldierLine_17 f9_9 bn_130 sh_130 (rf_130_0 hR) ?_
    refine am_callVvr (Y := mX8_advance) (pc := 20) (st := []) (As := []) (PP := fun c9 => cl_to (c9) t o ∧ cl_fr (h) c9 1 1) C dX9_soldierLine_20 k9_87 v_X8_advance rfl rfl bn_1 sh_1 ⟨by decide, rfl⟩ (by decide) (Nat.zero_le _) (Nat.zero_le _) (Nat.le_of_ble_eq_true rfl) (c_X8_adv_p (h := h) hR t o (show cl_tp (h) t (rf_e o) (rf_b o) from K) (show cl_sp t (rf_e o) (rf_b o) = rf_p o from hs) (show rf_To o from hT)) (fun g20_0 hg20_0 => ?_)
    obtain ⟨K20, F20⟩ := hg20_0
    refine am_aload_n (pc := 23) C dX9_soldierLine_23 rfl ?_
    refine am_getR (pc := 24) (j := 1) C dX9_soldierLine_24 f9_9 bn_130 sh_130 (rf_130_0 hR) ?_
    refine am_iconstN (pc := 27) (k := 0) C dX9_soldierLine_27 ?_
    refine am_iconstN (pc := 28) (k := 1) C dX9_soldierLine_28 ?_
    refine am_callVi (Y := mX8_isNumber) (pc := 29) (st := []) (As := [.int (nI 0), .int (nI 1)]) (x := (am_b (decide (rf_rNum t o 0 (nI 1) ≠ 0)))) (h2 := g20_0) C dX9_soldierLine_29 k9_90 v_X8_isNumber rfl rfl bn_1 sh_1 ⟨by decide, rfl⟩ (by decide) (Nat.zero_le _) (Nat.zero_le _) (Nat.le_of_ble_eq_true rfl) (c_X8_isNumber_o (h := g20_0) hR 0 (nI 1) t o (show cl_to (g20_0) t o from K20) (show 0 < 1000 from (by decide))) ?_
    refine am_if_neB (pc := 32) (tgt := 37) C dX9_soldierLine_32 (by decide) (fun q32 => ?_) (fun q32 => ?_)
    · skip
      have hr0 : rf_rNum t o 0 (nI 1) ≠ 0 := of_decide_eq_true q32
      have hrs := (rf_num_le (t := t) (o := o) (low := 0) (n := 1) (by decide) hr0).1
      refine am_aload_n (pc := 37) C dX9_soldierLine_37 rfl ?_
      refine am_getR (pc := 38) (j := 57) C dX9_soldierLine_38 f9_25 bn_130 sh_130 (rf_130_2 hR) ?_
      refine am_getR (pc := 41) (j := 63) C dX9_soldierLine_41 f9_112 bn_57 sh_57 (rf_57_9 hR) ?_
      refine am_iload_n (pc := 44) C dX9_soldierLine_44 rfl ?_
      refine am_aload_n (pc := 45) C dX9_soldierLine_45 rfl ?_
      refine am_getR (pc := 46) (j := 1) C dX9_soldierLine_46 f9_9 bn_130 sh_130 (rf_130_0 hR) ?_
      refine am_getI (pc := 49) C dX9_soldierLine_49 f9_94 bn_1 sh_1 ?_
      refine am_top (show ((g20_0 1) 5) = (nI (rf_rNum t o 0 (nI 1) - 1)) from (cl_to_v K20 (by decide) hr0)) ?_
      refine am_callSNv (Y := mX11_put) (pc := 52) (st := []) (As := [.ref 63, .int (nI (rf_S w)), .int (nI (rf_rNum t o 0 (nI 1) - 1))]) (h2 := (am_row g20_0 63 (upd (g20_0 63) (rf_S w) (nI (rf_rNum t o 0 (nI 1) - 1))))) C dX9_soldierLine_52 k9_116 v_X11_put rfl rfl (by decide) (Nat.zero_le _) (Nat.zero_le _) (Nat.le_of_ble_eq_true rfl) (c_X11_put 63 (rf_S w) (nI (rf_rNum t o 0 (nI 1) - 1)) 10 bn_63 sh_63 (show rf_S w < 10 from (by omega)) (by decide)) ?_
      refine am_aload_n (pc := 55) C dX9_soldierLine_55 rfl ?_
      refine am_getR (pc := 56) (j := 1) C dX9_soldierLine_56 f9_9 bn_130 sh_130 (rf_130_0 hR) ?_
      refine am_callVvr (Y := mX8_advance) (pc := 59) (st := []) (As := []) (PP := fun c9 => cl_to (c9) t (rf_oNum t o) ∧ cl_fr ((am_row g20_0 63 (upd (g20_0 63) (rf_S w) (nI (rf_rNum t o 0 (nI 1) - 1))))) c9 1 1) C dX9_soldierLine_59 k9_87 v_X8_advance rfl rfl bn_1 sh_1 ⟨by decide, rfl⟩ (by decide) (Nat.zero_le _) (Nat.zero_le _) (Nat.le_of_ble_eq_true rfl) (c_X8_adv_n (h := (am_row g20_0 63 (upd (g20_0 63) (rf_S w) (nI (rf_rNum t o 0 (nI 1) - 1))))) hR t o (show cl_to ((am_row g20_0 63 (upd (g20_0 63) (rf_S w) (nI (rf_rNum t o 0 (nI 1) - 1))))) t o from (cl_to_h (am_row_ne _ _ _ (by decide)) (am_row_ne _ _ _ (by decide)) K20)) (show rf_To o from hT) 0 (nI 1) (show 0 < 1000 from (by decide)) (show rf_rNum t o 0 (nI 1) ≠ 0 from hr0)) (fun g57_1 hg57_1 => ?_)
      obtain ⟨K57, F57⟩ := hg57_1
      refine am_iconstN (pc := 62) (k := 0) C dX9_soldierLine_62 ?_
      refine am_istore_n (pc := 63) (ls' := [(0, .ref 130), (1, .int (nI (rf_S w))), (2, .int (nI 0))]) C dX9_soldierLine_63 (by decide) rfl ?_
      have L62 : ∀ (j62 : Nat) (gk : am_H) (n : Nat) (q : rf_W) (wv : rf_W), (hnj : n + j62 = 7) → (hn6 : n ≤ 6) → (hTq : rf_To q) → (hKq : cl_to gk t q) → (hWy : rf_Wy w (rf_S w) n wv) → (hr6 : (gk 63) (rf_S w) = rf_of wv (rf_S w) 0) → (hq6 : ∀ s, s < (rf_S w) → (gk 63) s = (h 63) s) → (hr9 : ∀ k, k < n → (gk 66) ((rf_S w) * 6 + k) = rf_of wv (rf_S w) (3 + k)) → (hq9 : ∀ j, j < (rf_S w) * 6 → (gk 66) j = (h 66) j) → (hFk : ∀ i, i ≠ 1 ∧ i ≠ 63 ∧ i ≠ 66 → gk i = h i) → (hms : rf_lnS t o w = cl_wa t (rf_S w) n q wv) → am_G X (am_VV ad) (0, 0) 64 [(0, .ref 130), (1, .int (nI (rf_S w))), (2, .int (nI n))] [] r gk := by
        intro j62
        induction j62 with
        | zero =>
          intro gk n q wv hnj hn6 hTq hKq hWy hr6 hq6 hr9 hq9 hFk hms
          exact absurd hnj (by omega)
        | succ j62 ih62 =>
          intro gk n q wv hnj hn6 hTq hKq hWy hr6 hq6 hr9 hq9 hFk hms
          have hkd4 : cl_kd t (rf_e q) (rf_SB t q) < 4 := cl_kd_lt
          have hTm := rf_Tm_num (t := t) hTq
          have hTb := rf_Tm_bl (t := t) hTm.1
          refine am_iload_n (pc := 64) C dX9_soldierLine_64 rfl ?_
          refine am_bipush (pc := 65) (v := nI 6) C dX9_soldierLine_65 (by decide) ?_
          refine am_icmp_gtN (pc := 67) (tgt := 138) C dX9_soldierLine_67 (by decide) (by omega) (by omega) (fun q65 => ?_) (fun q65 => ?_)
          · skip
            exact absurd q65 (by omega)
          · skip
            refine am_aload_n (pc := 70) C dX9_soldierLine_70 rfl ?_
            refine am_getR (pc := 71) (j := 1) C dX9_soldierLine_71 f9_9 bn_130 sh_130 (rf_130_0 hR) ?_
            refine am_getI (pc := 74) C dX9_soldierLine_74 f9_31 bn_1 sh_1 ?_
            refine am_top (show ((gk 1) 2) = (nI (cl_kd t (rf_e q) (rf_SB t q))) from (cl_to_k hKq)) ?_
            refine am_iconstN (pc := 77) (k := 2) C dX9_soldierLine_77 ?_
            refine am_icmp_neN (pc := 78) (tgt := 138) C dX9_soldierLine_78 (by decide) (by omega) (by omega) (fun q76 => ?_) (fun q76 => ?_)
            · skip
              refine am_iload_n (pc := 138) C dX9_soldierLine_138 rfl ?_
              refine am_if_neN (pc := 139) (tgt := 144) C dX9_soldierLine_139 (by decide) (by omega) (fun q137 => ?_) (fun q137 => ?_)
              · skip
                refine am_aload_n (pc := 144) C dX9_soldierLine_144 rfl ?_
                refine am_getR (pc := 145) (j := 57) C dX9_soldierLine_145 f9_25 bn_130 sh_130 (rf_130_2 hR) ?_
                refine am_getR (pc := 148) (j := 65) C dX9_soldierLine_148 f9_123 bn_57 sh_57 (rf_57_11 hR) ?_
                refine am_iload_n (pc := 151) C dX9_soldierLine_151 rfl ?_
                refine am_iload_n (pc := 152) C dX9_soldierLine_152 rfl ?_
                refine am_callSNv (Y := mX11_put) (pc := 153) (st := []) (As := [.ref 65, .int (nI (rf_S w)), .int (nI n)]) (h2 := (am_row gk 65 (upd (gk 65) (rf_S w) (nI n)))) C dX9_soldierLine_153 k9_116 v_X11_put rfl rfl (by decide) (Nat.zero_le _) (Nat.zero_le _) (Nat.le_of_ble_eq_true rfl) (c_X11_put 65 (rf_S w) (nI n) 10 bn_65 sh_65 (show rf_S w < 10 from by omega) (by decide)) ?_
                refine am_aload_n (pc := 156) C dX9_soldierLine_156 rfl ?_
                refine am_getR (pc := 157) (j := 57) C dX9_soldierLine_157 f9_25 bn_130 sh_130 (rf_130_2 hR) ?_
                refine am_getR (pc := 160) (j := 64) C dX9_soldierLine_160 f9_126 bn_57 sh_57 (rf_57_10 hR) ?_
                refine am_iload_n (pc := 163) C dX9_soldierLine_163 rfl ?_
                refine am_iconstN (pc := 164) (k := 0) C dX9_soldierLine_164 ?_
                refine am_callSNv (Y := mX11_put) (pc := 165) (st := []) (As := [.ref 64, .int (nI (rf_S w)), .int (nI 0)]) (h2 := (am_row (am_row gk 65 (upd (gk 65) (rf_S w) (nI n))) 64 (upd (gk 64) (rf_S w) (nI 0)))) C dX9_soldierLine_165 k9_116 v_X11_put rfl rfl (by decide) (Nat.zero_le _) (Nat.zero_le _) (Nat.le_of_ble_eq_true rfl) (c_X11_put 64 (rf_S w) (nI 0) 10 bn_64 sh_64 (show rf_S w < 10 from by omega) (by decide)) ?_
                refine am_aload_n (pc := 168) C dX9_soldierLine_168 rfl ?_
                refine am_getR (pc := 169) (j := 57) C dX9_soldierLine_169 f9_25 bn_130 sh_130 (rf_130_2 hR) ?_
                refine am_dup (pc := 172) C dX9_soldierLine_172 rfl ?_
                refine am_getI (pc := 173) C dX9_soldierLine_173 f9_109 bn_57 sh_57 ?_
                refine am_top (show ((gk 57) 2) = (nI (rf_S w)) from (by rw [hFk 57 (by omega)]; exact hLo.1.2.2.1.trans hV.1.2.1.1)) ?_
                refine am_iconstN (pc := 176) (k := 1) C dX9_soldierLine_176 ?_
                refine am_iaddN (pc := 177) C dX9_soldierLine_177 ?_
                refine am_putI (pc := 178) C dX9_soldierLine_178 f9_109 bn_57 sh_57 rfl rfl ?_
                refine am_hp (show am_up (am_row (am_row gk 65 (upd (gk 65) (rf_S w) (nI n))) 64 (upd (gk 64) (rf_S w) (nI 0))) 57 2 (nI ((rf_S w) + 1)) = am_row (am_row (am_row gk 65 (upd (gk 65) (rf_S w) (nI n))) 64 (upd (gk 64) (rf_S w) (nI 0))) 57 (upd (gk 57) 2 (nI ((rf_S w) + 1))) from am_up_rw _ _ _ _) ?_
                refine am_aload_n (pc := 181) C dX9_soldierLine_181 rfl ?_
                refine am_getR (pc := 182) (j := 56) C dX9_soldierLine_182 f9_15 bn_130 sh_130 (rf_130_1 hR) ?_
                refine am_iload_n (pc := 185) C dX9_soldierLine_185 rfl ?_
                refine am_callVv (Y := mX10_enter) (pc := 186) (st := []) (As := [.int (nI (rf_S w))]) (h2 := (am_row (am_row (am_row (am_row (am_row (am_row (am_row (am_row gk 65 (upd (gk 65) (rf_S w) (nI n))) 64 (upd (gk 64) (rf_S w) (nI 0))) 57 (upd (gk 57) 2 (nI ((rf_S w) + 1)))) 79 (upd (gk 79) (rf_S w) (nI 0))) 80 (upd (gk 80) (rf_S w) ((gk 66) ((rf_S w) * 6)))) 81 (upd (gk 81) (rf_S w) (nI 0))) 82 (upd (gk 82) (rf_S w) (nI 0))) 83 (upd (gk 83) (rf_S w) (nI 0)))) C dX9_soldierLine_186 k9_128 v_X10_enter rfl rfl bn_56 sh_56 ⟨by decide, rfl⟩ (by decide) (Nat.zero_le _) (Nat.zero_le _) (Nat.le_of_ble_eq_true rfl) (c_X10_enter_d (h := (am_row (am_row (am_row gk 65 (upd (gk 65) (rf_S w) (nI n))) 64 (upd (gk 64) (rf_S w) (nI 0))) 57 (upd (gk 57) 2 (nI ((rf_S w) + 1))))) hR (rf_S w) (show (rf_S w) < 10 from (by omega))) ?_
                refine am_iconstN (pc := 189) (k := 1) C dX9_soldierLine_189 ?_
                have E9 : rf_lnS t o w = (true, q, upd (upd wv (61 + 23 * (rf_S w) + 2) (nI n)) 1 (nI ((rf_S w) + 1))) := hms.trans (cl_wa_end (by omega) (cl_fig_f q76))
                exact am_iretbr T dX9_soldierLine_190 rfl (Nat.le_refl _) (Nat.le_refl _) (by rw [E9]; rfl) rfl (by rw [E9]; exact ⟨fun _ => ⟨cl_to_h (by rw [am_row_ne _ _ _ (by decide), am_row_ne _ _ _ (by decide), am_row_ne _ _ _ (by decide), am_row_ne _ _ _ (by decide), am_row_ne _ _ _ (by decide), am_row_ne _ _ _ (by decide), am_row_ne _ _ _ (by decide), am_row_ne _ _ _ (by decide)]) (by rw [am_row_ne _ _ _ (by decide), am_row_ne _ _ _ (by decide), am_row_ne _ _ _ (by decide), am_row_ne _ _ _ (by decide), am_row_ne _ _ _ (by decide), am_row_ne _ _ _ (by decide), am_row_ne _ _ _ (by decide), am_row_ne _ _ _ (by decide)]) hKq, cl_soldh hV (by omega) (by omega) hn6 hWy hr6 hq6 hr9 hq9 hFk hLo hSc _ rfl⟩, fun z => absurd z (fun y => Bool.false_ne_true y.symm), (fun i9 h9 => by rw [am_row_ne _ _ _ (by omega), am_row_ne _ _ _ (by omega), am_row_ne _ _ _ (by omega), am_row_ne _ _ _ (by omega), am_row_ne _ _ _ (by omega), am_row_ne _ _ _ (by omega), am_row_ne _ _ _ (by omega), am_row_ne _ _ _ (by omega)]; exact hFk i9 (by omega))⟩)
              · skip
                refine am_iconstN (pc := 142) (k := 0) C dX9_soldierLine_142 ?_
                have E9 : rf_lnS t o w = (false, rf_oNum t q, wv) := hms.trans (cl_wa_bad (Or.inl (by omega)) (Or.inl (cl_num_z (cl_fig_f q76))) (by omega))
                exact am_iretbr T dX9_soldierLine_143 rfl (Nat.le_refl _) (Nat.le_refl _) (by rw [E9]; rfl) rfl (by rw [E9]; exact ⟨fun z => absurd z Bool.false_ne_true, fun _ => (cl_to_b hKq).trans (congrArg nI (rf_b_num hTq).symm), (fun i h9 => hFk i (by omega))⟩)
            · skip
              refine am_iload_n (pc := 81) C dX9_soldierLine_81 rfl ?_
              refine am_bipush (pc := 82) (v := nI 6) C dX9_soldierLine_82 (by decide) ?_
              refine am_icmp_eqN (pc := 84) (tgt := 100) C dX9_soldierLine_84 (by decide) (by omega) (by omega) (fun q82 => ?_) (fun q82 => ?_)
              · skip
                refine am_iconstN (pc := 100) (k := 0) C dX9_soldierLine_100 ?_
                have E9 : rf_lnS t o w = (false, rf_oNum t q, wv) := hms.trans (cl_wa_bad (Or.inr (cl_kd_fig.mp q76)) (Or.inr q82) (by omega))
                exact am_iretbr T dX9_soldierLine_101 rfl (Nat.le_refl _) (Nat.le_refl _) (by rw [E9]; rfl) rfl (by rw [E9]; exact ⟨fun z => absurd z Bool.false_ne_true, fun _ => (cl_to_b hKq).trans (congrArg nI (rf_b_num hTq).symm), (fun i h9 => hFk i (by omega))⟩)
              · skip
                refine am_aload_n (pc := 87) C dX9_soldierLine_87 rfl ?_
                refine am_getR (pc := 88) (j := 1) C dX9_soldierLine_88 f9_9 bn_130 sh_130 (rf_130_0 hR) ?_
                refine am_iconstN (pc := 91) (k := 0) C dX9_soldierLine_91 ?_
                refine am_bipush (pc := 92) (v := nI 7) C dX9_soldierLine_92 (by decide) ?_
                refine am_callVi (Y := mX8_isNumber) (pc := 94) (st := []) (As := [.int (nI 0), .int (nI 7)]) (x := (am_b (decide (rf_rNum t q 0 (nI 7) ≠ 0)))) (h2 := gk) C dX9_soldierLine_94 k9_90 v_X8_isNumber rfl rfl bn_1 sh_1 ⟨by decide, rfl⟩ (by decide) (Nat.zero_le _) (Nat.zero_le _) (Nat.le_of_ble_eq_true rfl) (c_X8_isNumber_o (h := gk) hR 0 (nI 7) t q (show cl_to (gk) t q from hKq) (show 0 < 1000 from (by decide))) ?_
                refine am_if_neB (pc := 97) (tgt := 102) C dX9_soldierLine_97 (by decide) (fun q95 => ?_) (fun q95 => ?_)
                · skip
                  have hv7 : rf_rNum t q 0 (nI 7) - 1 < 8 := by have := (rf_num_le (t := t) (o := q) (low := 0) (n := 7) (by decide) (of_decide_eq_true q95)).1; omega
                  refine am_aload_n (pc := 102) C dX9_soldierLine_102 rfl ?_
                  refine am_getR (pc := 103) (j := 57) C dX9_soldierLine_103 f9_25 bn_130 sh_130 (rf_130_2 hR) ?_
                  refine am_getR (pc := 106) (j := 66) C dX9_soldierLine_106 f9_120 bn_57 sh_57 (rf_57_12 hR) ?_
                  refine am_iload_n (pc := 109) C dX9_soldierLine_109 rfl ?_
                  refine am_bipush (pc := 110) (v := nI 6) C dX9_soldierLine_110 (by decide) ?_
                  refine am_imulN (pc := 112) C dX9_soldierLine_112 ?_
                  refine am_iload_n (pc := 113) C dX9_soldierLine_113 rfl ?_
                  refine am_iaddN (pc := 114) C dX9_soldierLine_114 ?_
                  refine am_aload_n (pc := 115) C dX9_soldierLine_115 rfl ?_
                  refine am_getR (pc := 116) (j := 1) C dX9_soldierLine_116 f9_9 bn_130 sh_130 (rf_130_0 hR) ?_
                  refine am_getI (pc := 119) C dX9_soldierLine_119 f9_94 bn_1 sh_1 ?_
                  refine am_top (show ((gk 1) 5) = (nI (rf_rNum t q 0 (nI 7) - 1)) from (cl_to_v hKq (by decide) (of_decide_eq_true q95))) ?_
                  refine am_callSNv (Y := mX11_put) (pc := 122) (st := []) (As := [.ref 66, .int (nI (((rf_S w) * 6) + n)), .int (nI (rf_rNum t q 0 (nI 7) - 1))]) (h2 := (am_row gk 66 (upd (gk 66) (((rf_S w) * 6) + n) (nI (rf_rNum t q 0 (nI 7) - 1))))) C dX9_soldierLine_122 k9_116 v_X11_put rfl rfl (by decide) (Nat.zero_le _) (Nat.zero_le _) (Nat.le_of_ble_eq_true rfl) (c_X11_put 66 (((rf_S w) * 6) + n) (nI (rf_rNum t q 0 (nI 7) - 1)) 60 bn_66 sh_66 (show ((rf_S w) * 6) + n < 60 from (by omega)) (by decide)) ?_
                  refine am_iincN (pc := 125) (ls' := [(0, .ref 130), (1, .int (nI (rf_S w))), (2, .int (nI (n + 1)))]) C dX9_soldierLine_125 rfl (am_up1 _) (by decide) rfl ?_
                  refine am_aload_n (pc := 128) C dX9_soldierLine_128 rfl ?_
                  refine am_getR (pc := 129) (j := 1) C dX9_soldierLine_129 f9_9 bn_130 sh_130 (rf_130_0 hR) ?_
                  refine am_callVvr (Y := mX8_advance) (pc := 132) (st := []) (As := []) (PP := fun c9 => cl_to (c9) t (rf_oNum t q) ∧ cl_fr ((am_row gk 66 (upd (gk 66) (((rf_S w) * 6) + n) (nI (rf_rNum t q 0 (nI 7) - 1))))) c9 1 1) C dX9_soldierLine_132 k9_87 v_X8_advance rfl rfl bn_1 sh_1 ⟨by decide, rfl⟩ (by decide) (Nat.zero_le _) (Nat.zero_le _) (Nat.le_of_ble_eq_true rfl) (c_X8_adv_n (h := (am_row gk 66 (upd (gk 66) (((rf_S w) * 6) + n) (nI (rf_rNum t q 0 (nI 7) - 1))))) hR t q (show cl_to ((am_row gk 66 (upd (gk 66) (((rf_S w) * 6) + n) (nI (rf_rNum t q 0 (nI 7) - 1))))) t q from (cl_to_h (am_row_ne _ _ _ (by decide)) (am_row_ne _ _ _ (by decide)) hKq)) (show rf_To q from hTq) 0 (nI 7) (show 0 < 1000 from (by decide)) (show rf_rNum t q 0 (nI 7) ≠ 0 from (of_decide_eq_true q95))) (fun g130_3 hg130_3 => ?_)
                  obtain ⟨K130, F130⟩ := hg130_3
                  refine am_goto (pc := 135) (tgt := 64) C dX9_soldierLine_135 (by decide) ?_
                  exact ih62 g130_3 (n + 1) (rf_oBl t (rf_oNum t q)) (upd wv (61 + 23 * (rf_S w) + (3 + n)) (nI (rf_rNum t q 0 (nI 7) - 1))) (by omega) (by omega) hTb.1 (cl_to_eq K130 rf_e_bl (rf_SB_bl hTm.1)) (rf_Wy_s hWy (by omega) hv7) (by rw [F130 63 (by omega), am_row_ne _ _ _ (by omega), rf_of_upd (by omega)]; exact hr6) (fun s hs => by rw [F130 63 (by omega), am_row_ne _ _ _ (by omega)]; exact hq6 s hs) (cl_way9 (F130 66 (by omega)) hr9) (fun j hj => by rw [F130 66 (by omega), am_row_at, rf_upd_ne (by omega)]; exact hq9 j hj) (fun i h9 => (F130 i (by omega)).trans ((am_row_ne _ _ _ (by omega)).trans (hFk i h9))) (hms.trans (cl_wa_go hTm.1 (cl_kd_fig.mp q76) (of_decide_eq_true q95) (by omega)))
                · skip
                  refine am_iconstN (pc := 100) (k := 0) C dX9_soldierLine_100 ?_
                  have E9 : rf_lnS t o w = (false, rf_oNum t q, wv) := hms.trans (cl_wa_bad (Or.inr (cl_kd_fig.mp q76)) (Or.inl (Classical.not_not.mp (of_decide_eq_false q95))) (by omega))
                  exact am_iretbr T dX9_soldierLine_101 rfl (Nat.le_refl _) (Nat.le_refl _) (by rw [E9]; rfl) rfl (by rw [E9]; exact ⟨fun z => absurd z Bool.false_ne_true, fun _ => (cl_to_b hKq).trans (congrArg nI (rf_b_num hTq).symm), (fun i h9 => hFk i (by omega))⟩)
      exact L62 7 g57_1 0 (rf_oNum t o) (upd (rf_zs w (rf_S w) 23) (61 + 23 * (rf_S w) + 0) (nI (rf_rNum t o 0 (nI 1) - 1))) (by omega) (by omega) hTn.1 K57 (rf_Wy_0 (by omega) (by omega)) (by rw [F57 63 (by omega), am_row_at, rf_upd_eq, rf_of, rf_upd_eq]) (fun s hs => by rw [F57 63 (by omega), am_row_at, rf_upd_ne (by omega), F20 63 (by omega)]) (fun k hk => absurd hk (by omega)) (fun j hj => by rw [F57 66 (by omega), am_row_ne _ _ _ (by omega), F20 66 (by omega)]) (fun i h9 => (F57 i (by omega)).trans ((am_row_ne _ _ _ (by omega)).trans (F20 i (by omega)))) (by rw [rf_lnS, if_neg (by omega), if_neg hr0, cl_wa, if_pos (Or.inl rfl)])
    · skip
      refine am_iconstN (pc := 35) (k := 0) C dX9_soldierLine_35 ?_
      have E9 : rf_lnS t o w = (false, rf_oNum t o, rf_zs w (rf_S w) 23) := by rw [rf_lnS, if_neg (show ¬ rf_S w = 10 by omega), if_pos (Classical.not_not.mp (of_decide_eq_false q32))]
      exact am_iretbr T dX9_soldierLine_36 rfl (Nat.le_refl _) (Nat.le_refl _) (by rw [E9]; rfl) rfl (by rw [E9]; exact ⟨fun z => absurd z Bool.false_ne_true, fun _ => (cl_to_b K20).trans (congrArg nI (rf_b_num hT).symm), (fun i h9 => F20 i (by omega))⟩)
  · skip
    refine am_iconstN (pc := 14) (k := 0) C dX9_soldierLine_14 ?_
    have E9 : rf_lnS t o w = (false, o, w) := by rw [rf_lnS, if_pos (show rf_S w = 10 by omega)]
    exact am_iretbr T dX9_soldierLine_15 rfl (Nat.le_refl _) (Nat.le_refl _) (by rw [E9]; rfl) rfl (by rw [E9]; exact ⟨fun z => absurd z Bool.false_ne_true, fun _ => (cl_tp_b K), (fun _ _ => rfl)⟩)

