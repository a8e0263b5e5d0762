/-! THE CLASS: the draft of a war grows line by line, with the reference's world -/
section DRAFT
theorem rf_bears_c {w w' : rf_W} {m : Nat} (h : ∀ o, o < 16 → rf_mem w' o 1 = rf_mem w o 1) (hm : m < 16) : rf_bears w' m = rf_bears w m := by
  rw [rf_bears, rf_bears, h m hm]
  exact rf_bdn_congr m (fun o ho => h o (by omega)) _
theorem rf_rests_c {w w' : rf_W} {m : Nat} (h : ∀ o, o < 16 → rf_mem w' o 1 = rf_mem w o 1) (eM : rf_M w' = rf_M w) (hM : rf_M w < 17) : rf_rests w' m = rf_rests w m := by
  rw [rf_rests, rf_rests, eM]
  exact rf_set_congr _ (fun o ho => by rw [rf_bears_c h (by omega)])
theorem rf_usable_c {w w' : rf_W} {x : Int32} (h : ∀ o, o < 16 → rf_mem w' o 1 = rf_mem w o 1) (eM : rf_M w' = rf_M w) (hM : rf_M w < 17) : rf_usable w' x = rf_usable w x := by
  rw [rf_usable, rf_usable, eM]
  exact rf_usa_congr _ (fun o ho => h o (by omega))
/-- a soldier's own in the lore; one's own in the scene -/
def cl_lS (h : am_H) (b : Nat) (w : rf_W) (s : Nat) : Prop := h (b + 6) s = rf_of w s 0 ∧ h (b + 7) s = rf_of w s 22 ∧ h (b + 8) s = rf_of w s 2 ∧ ∀ k, k < rf_ofn w s 2 → h (b + 9) (s * 6 + k) = rf_of w s (3 + k)
def cl_sS (h : am_H) (b : Nat) (w : rf_W) (s : Nat) : Prop := h (b + 1) s = rf_of w s 1 ∧ h (b + 2) s = rf_pl w s ∧ h (b + 3) s = rf_of w s 9 ∧ h (b + 4) s = rf_known w s ∧ h (b + 5) s = rf_use w s ∧ ∀ k, k < rf_kn w s → h (b + 6) (s * 12 + k) = rf_of w s (10 + k)
theorem cl_lS_c {h h' : am_H} {b : Nat} {w w' : rf_W} {s : Nat} (h7 : rf_ofn w s 2 < 7) (eo : ∀ k, k < 23 → rf_of w' s k = rf_of w s k) (e6 : h' (b + 6) s = h (b + 6) s) (e7 : h' (b + 7) s = h (b + 7) s) (e8 : h' (b + 8) s = h (b + 8) s) (e9 : ∀ k, k < 6 → h' (b + 9) (s * 6 + k) = h (b + 9) (s * 6 + k)) (L : cl_lS h b w s) : cl_lS h' b w' s := by
  obtain ⟨c1, c2, c3, c4⟩ := L
  refine ⟨by rw [e6, eo 0 (by omega)]; exact c1, by rw [e7, eo 22 (by omega)]; exact c2, by rw [e8, eo 2 (by omega)]; exact c3, fun k hk => ?_⟩
  have hk2 : k < rf_ofn w s 2 := by rw [rf_ofn, eo 2 (by omega)] at hk; exact hk
  rw [e9 k (by omega), eo _ (by omega)]
  exact c4 k hk2
theorem cl_sS_c {h h' : am_H} {b : Nat} {w w' : rf_W} {s : Nat} (hI : rf_Is w s) (eo : ∀ k, k < 22 → rf_of w' s k = rf_of w s k) (eu : rf_usable w' (rf_known w s) = rf_usable w (rf_known w s)) (e1 : h' (b + 1) s = h (b + 1) s) (e2 : h' (b + 2) s = h (b + 2) s) (e3 : h' (b + 3) s = h (b + 3) s) (e4 : h' (b + 4) s = h (b + 4) s) (e5 : h' (b + 5) s = h (b + 5) s) (e6 : ∀ k, k < 12 → h' (b + 6) (s * 12 + k) = h (b + 6) (s * 12 + k)) (S : cl_sS h b w s) : cl_sS h' b w' s := by
  have hk : rf_kn w s < 13 := hI.2.2.2.2.1.2
  have h7 : rf_ofn w s 2 < 7 := hI.2.1.2
  have h1n : rf_ofn w s 1 < rf_ofn w s 2 := hI.2.2.1.2
  have ek : rf_kn w' s = rf_kn w s := by rw [rf_kn, rf_kn, rf_ofn, rf_ofn, eo 9 (by omega)]
  have ekn := rf_known_congr (w := w) (w' := w') (s := s) (fun k _ h2 => eo k (by omega))
  have epl : rf_pl w' s = rf_pl w s := by rw [rf_pl, rf_pl, rf_ofn, eo 1 (by omega)]; exact eo _ (by show 3 + rf_ofn w s 1 < 22; omega)
  obtain ⟨c1, c2, c3, c4, c5, c6⟩ := S
  refine ⟨by rw [e1, eo 1 (by omega)]; exact c1, by rw [e2, epl]; exact c2, by rw [e3, eo 9 (by omega)]; exact c3, by rw [e4, ekn]; exact c4, by rw [e5, rf_use, ekn, eu]; exact c5, fun k hk' => ?_⟩
  rw [ek] at hk'
  rw [e6 k (by omega), eo (10 + k) (by omega)]
  exact c6 k hk'
/-- what lies and what is logged -/
theorem cl_Sc_mk {h h' : am_H} {b : Nat} {w w' : rf_W} (hI : rf_I w) (E : rf_Ew w w') (e0 : h' b = h b) (e7 : ∀ i, 7 ≤ i → i ≤ 14 → h' (b + i) = h (b + i)) (S : cl_Sc h b w) (hs : ∀ s, s < rf_S w' → cl_sS h' b w' s) : cl_Sc h' b w' := by
  obtain ⟨⟨a0, a1, a2, a3, a4⟩, _, af, aG, al⟩ := S
  have hG : rf_G w < 61 := hI.2.2.2.2.1.2.2.2.2
  have hF : rf_F w < 41 := hI.2.2.2.2.1.2.2.1.2
  have eF : rf_F w' = rf_F w := by rw [rf_F, rf_F, E 6 (by omega)]
  have eG : rf_G w' = rf_G w := by rw [rf_G, rf_G, E 9 (by omega)]
  refine ⟨⟨by rw [e0, E 5 (by omega)]; exact a0, by rw [e0, E 10 (by omega)]; exact a1, by rw [e0, E 7 (by omega)]; exact a2, by rw [e0, E 8 (by omega)]; exact a3, by rw [e0, E 6 (by omega)]; exact a4⟩, hs, fun f hf => ?_, by rw [eG, E 7 (by omega)]; exact aG, fun a ha => ?_⟩
  · rw [eF] at hf
    obtain ⟨c1, c2, c3⟩ := af f hf
    exact ⟨by rw [e7 7 (by omega) (by omega), rf_fld, E _ (by omega)]; exact c1, by rw [e7 8 (by omega) (by omega), rf_fld, E _ (by omega)]; exact c2, by rw [e7 9 (by omega) (by omega), rf_fld, E _ (by omega)]; exact c3⟩
  · rw [eG] at ha
    obtain ⟨c1, c2, c3, c4, c5⟩ := al a ha
    have er : cl_row w' a = cl_row w a := by rw [cl_row, cl_row, E 7 (by omega)]
    rw [er]
    exact ⟨by rw [e7 10 (by omega) (by omega), rf_log, E _ (by omega)]; exact c1, by rw [e7 11 (by omega) (by omega), rf_log, E _ (by omega)]; exact c2, by rw [e7 12 (by omega) (by omega), rf_log, E _ (by omega)]; exact c3, by rw [e7 13 (by omega) (by omega), rf_log, E _ (by omega)]; exact c4, by rw [e7 14 (by omega) (by omega), rf_log, E _ (by omega)]; exact c5⟩
theorem cl_Sc_lore {h h' : am_H} {b : Nat} {w w' : rf_W} (hI : rf_I w) (E : rf_Ew w w') (e : ∀ i, b ≤ i → i ≤ b + 14 → h' i = h i) (eS : rf_S w' = rf_S w) (eo : ∀ s, s < rf_S w → ∀ k, k < 22 → rf_of w' s k = rf_of w s k) (eu : ∀ s, s < rf_S w → rf_usable w' (rf_known w s) = rf_usable w (rf_known w s)) (S : cl_Sc h b w) : cl_Sc h' b w' := by
  refine cl_Sc_mk hI E (e b (by omega) (by omega)) (fun i h1 h2 => e _ (by omega) (by omega)) S (fun s hs => ?_)
  rw [eS] at hs
  exact cl_sS_c (hI.2.1 s hs) (eo s hs) (eu s hs) (by rw [e _ (by omega) (by omega)]) (by rw [e _ (by omega) (by omega)]) (by rw [e _ (by omega) (by omega)]) (by rw [e _ (by omega) (by omega)]) (by rw [e _ (by omega) (by omega)]) (fun k hk => by rw [e _ (by omega) (by omega)]) (S.2.1 s hs)
theorem cl_La_Ew {h : am_H} {b : Nat} {w w' : rf_W} (E : rf_Ew w w') (L : cl_La h b w) : cl_La h b w' := by
  obtain ⟨l1, l2⟩ := L
  have e4 := E 4 (by omega)
  have e731 := E 731 (by omega)
  refine ⟨fun h0 => l1 (by rw [← e4]; exact h0), fun h0 => ?_⟩
  rw [e4] at h0
  obtain ⟨k1, k2⟩ := l2 h0
  refine ⟨by rw [e731]; exact k1, fun n hn => ?_⟩
  rw [e731] at hn
  obtain ⟨c1, c2, c3, c4, c5⟩ := k2 n hn
  have f2 := E (732 + 4 * n + 2) (by omega)
  have f3 := E (732 + 4 * n + 3) (by omega)
  refine ⟨by rw [E _ (by omega)]; exact c1, by rw [E _ (by omega)]; exact c2, by rw [f2]; exact c3, by rw [f3]; exact c4, fun i h1 h2 => ?_⟩
  rw [f2] at h1
  rw [f3] at h2
  rw [c5 i h1 h2, cl_op, cl_op, rf_sc, rf_sc, E (780 + 2 * i) (by omega), E (780 + 2 * i + 1) (by omega)]
/-! two memories of one clash -/
theorem cl_clash {h h' : am_H} {b : Nat} {w : rf_W} {x y : Nat} (hI : rf_I w) (hx : x < rf_M w) (hy : y < rf_M w) (L : cl_Lo h b w) (S : cl_Sc h (b + 21) w) (e5 : h' (b + 5) = upd (upd (h (b + 5)) x (h (b + 5) x ||| rf_bit y)) y (upd (h (b + 5)) x (h (b + 5) x ||| rf_bit y) y ||| rf_bit x)) (e : ∀ i, b ≤ i → i ≤ b + 35 → i ≠ b + 5 → h' i = h i) : cl_Lo h' b (rf_clash w x y) ∧ cl_Sc h' (b + 21) (rf_clash w x y) := by
  have hM : rf_M w < 17 := hI.1.1.2
  have hE := (rf_I_clash hI hx hy).2
  have hw : ∀ a, a ≠ 13 + 3 * x + 2 → a ≠ 13 + 3 * y + 2 → rf_clash w x y a = w a := fun a h1 h2 => by rw [rf_clash, rf_upd_ne h2, rf_upd_ne h1]
  have h2 : ∀ m, m < rf_M w → h' (b + 5) m = rf_mem (rf_clash w x y) m 2 := fun m hm => by
    have c : ∀ m, m < rf_M w → h (b + 5) m = w (13 + 3 * m + 2) := fun m hm => (L.2.1 m hm).2.2.2.2
    rw [e5, rf_mem, rf_clash]
    by_cases ey : m = y
    · rw [ey, rf_upd_eq, rf_upd_eq]
      by_cases ex : y = x
      · rw [ex, rf_upd_eq, rf_upd_eq, c x hx]
      · rw [rf_upd_ne ex, rf_upd_ne (by omega), c y hy]
    · rw [rf_upd_ne ey]
      by_cases ex : m = x
      · rw [ex, rf_upd_eq, rf_upd_ne (show 13 + 3 * x + 2 ≠ 13 + 3 * y + 2 by omega), rf_upd_eq, c x hx]
      · rw [rf_upd_ne ex, rf_upd_ne (show 13 + 3 * m + 2 ≠ 13 + 3 * y + 2 by omega), rf_upd_ne (show 13 + 3 * m + 2 ≠ 13 + 3 * x + 2 by omega), c m hm]
  generalize rf_clash w x y = w' at hE hw h2 ⊢
  have m1 : ∀ o, o < 16 → rf_mem w' o 1 = rf_mem w o 1 := fun o _ => hw _ (by omega) (by omega)
  have eM : rf_M w' = rf_M w := by rw [rf_M, rf_M, hw 0 (by omega) (by omega)]
  have eS : rf_S w' = rf_S w := by rw [rf_S, rf_S, hw 1 (by omega) (by omega)]
  have eO : rf_O w' = rf_O w := by rw [rf_O, rf_O, hw 2 (by omega) (by omega)]
  have eo : ∀ s k, rf_of w' s k = rf_of w s k := fun s k => hw _ (by omega) (by omega)
  obtain ⟨⟨a0, a1, a2, a3⟩, am, as, ao, ap⟩ := L
  refine ⟨⟨⟨?_, ?_, ?_, ?_⟩, fun m hm => ?_, fun s hs => ?_, fun o ho => ?_, ?_, ?_⟩, cl_Sc_lore hI hE (fun i h1 h3 => e i (by omega) (by omega) (by omega)) eS (fun s _ k _ => eo s k) (fun s _ => rf_usable_c m1 eM hM) S⟩
  · rw [e b (by omega) (by omega) (by omega), hw 3 (by omega) (by omega)]; exact a0
  · rw [e b (by omega) (by omega) (by omega), hw 0 (by omega) (by omega)]; exact a1
  · rw [e b (by omega) (by omega) (by omega), hw 1 (by omega) (by omega)]; exact a2
  · rw [e b (by omega) (by omega) (by omega), hw 2 (by omega) (by omega)]; exact a3
  · rw [eM] at hm
    obtain ⟨c1, c2, c3, c4, -⟩ := am m hm
    exact ⟨by rw [e _ (by omega) (by omega) (by omega), rf_mem, hw _ (by omega) (by omega)]; exact c1, by rw [e _ (by omega) (by omega) (by omega), m1 m (by omega)]; exact c2, by rw [e _ (by omega) (by omega) (by omega), rf_bears_c m1 (by omega)]; exact c3, by rw [e _ (by omega) (by omega) (by omega), rf_rests_c m1 eM hM]; exact c4, h2 m hm⟩
  · rw [eS] at hs
    exact cl_lS_c (hI.2.1 s hs).2.1.2 (fun k _ => eo s k) (by rw [e _ (by omega) (by omega) (by omega)]) (by rw [e _ (by omega) (by omega) (by omega)]) (by rw [e _ (by omega) (by omega) (by omega)]) (fun k _ => by rw [e _ (by omega) (by omega) (by omega)]) (as s hs)
  · rw [eO] at ho
    obtain ⟨c1, c2⟩ := ao o ho
    exact ⟨by rw [e _ (by omega) (by omega) (by omega), rf_ord, hw _ (by omega) (by omega)]; exact c1, by rw [e _ (by omega) (by omega) (by omega), rf_ord, hw _ (by omega) (by omega)]; exact c2⟩
  · rw [e _ (by omega) (by omega) (by omega), hw 11 (by omega) (by omega)]; exact ap.1
  · rw [e _ (by omega) (by omega) (by omega), hw 12 (by omega) (by omega)]; exact ap.2
/-! a plan, a book, an order -/
theorem cl_planned {h h' : am_H} {b : Nat} {w : rf_W} {d : Nat} {x : Int32} (hI : rf_I w) (hd : d < 2) (hx : am_lo x (rf_M w)) (L : cl_Lo h b w) (S : cl_Sc h (b + 21) w) (e12 : h' (b + 12) = upd (h (b + 12)) d (h (b + 12) d ||| x)) (e : ∀ i, b ≤ i → i ≤ b + 35 → i ≠ b + 12 → h' i = h i) : cl_Lo h' b (upd w (11 + d) (w (11 + d) ||| x)) ∧ cl_Sc h' (b + 21) (upd w (11 + d) (w (11 + d) ||| x)) := by
  have hM : rf_M w < 17 := hI.1.1.2
  have hE := (rf_I_plan hI hd hx).2
  have hw : ∀ a, a ≠ 11 + d → upd w (11 + d) (w (11 + d) ||| x) a = w a := fun a h1 => rf_upd_ne h1
  have h2 : h' (b + 12) 0 = upd w (11 + d) (w (11 + d) ||| x) 11 ∧ h' (b + 12) 1 = upd w (11 + d) (w (11 + d) ||| x) 12 := by
    have c := cl_plan L hd
    rw [e12, c]
    rcases (show d = 0 ∨ d = 1 by omega) with rfl | rfl
    · exact ⟨by rw [rf_upd_eq, rf_upd_eq], by rw [rf_upd_ne (by decide), rf_upd_ne (by decide)]; exact L.2.2.2.2.2⟩
    · exact ⟨by rw [rf_upd_ne (by decide), rf_upd_ne (by decide)]; exact L.2.2.2.2.1, by rw [rf_upd_eq, rf_upd_eq]⟩
  generalize upd w (11 + d) (w (11 + d) ||| x) = w' at hE hw h2 ⊢
  have m1 : ∀ o, o < 16 → rf_mem w' o 1 = rf_mem w o 1 := fun o _ => hw _ (by omega)
  have eM : rf_M w' = rf_M w := by rw [rf_M, rf_M, hw 0 (by omega)]
  have eS : rf_S w' = rf_S w := by rw [rf_S, rf_S, hw 1 (by omega)]
  have eO : rf_O w' = rf_O w := by rw [rf_O, rf_O, hw 2 (by omega)]
  have eo : ∀ s k, rf_of w' s k = rf_of w s k := fun s k => hw _ (by omega)
  obtain ⟨⟨a0, a1, a2, a3⟩, am, as, ao, ap⟩ := L
  refine ⟨⟨⟨?_, ?_, ?_, ?_⟩, fun m hm => ?_, fun s hs => ?_, fun o ho => ?_, h2⟩, cl_Sc_lore hI hE (fun i h1 h3 => e i (by omega) (by omega) (by omega)) eS (fun s _ k _ => eo s k) (fun s _ => rf_usable_c m1 eM hM) S⟩
  · rw [e b (by omega) (by omega) (by omega), hw 3 (by omega)]; exact a0
  · rw [e b (by omega) (by omega) (by omega), hw 0 (by omega)]; exact a1
  · rw [e b (by omega) (by omega) (by omega), hw 1 (by omega)]; exact a2
  · rw [e b (by omega) (by omega) (by omega), hw 2 (by omega)]; exact a3
  · rw [eM] at hm
    obtain ⟨c1, c2, c3, c4, c5⟩ := am m hm
    exact ⟨by rw [e _ (by omega) (by omega) (by omega), rf_mem, hw _ (by omega)]; exact c1, by rw [e _ (by omega) (by omega) (by omega), m1 m (by omega)]; exact c2, by rw [e _ (by omega) (by omega) (by omega), rf_bears_c m1 (by omega)]; exact c3, by rw [e _ (by omega) (by omega) (by omega), rf_rests_c m1 eM hM]; exact c4, by rw [e _ (by omega) (by omega) (by omega), rf_mem, hw _ (by omega)]; exact c5⟩
  · rw [eS] at hs
    exact cl_lS_c (hI.2.1 s hs).2.1.2 (fun k _ => eo s k) (by rw [e _ (by omega) (by omega) (by omega)]) (by rw [e _ (by omega) (by omega) (by omega)]) (by rw [e _ (by omega) (by omega) (by omega)]) (fun k _ => by rw [e _ (by omega) (by omega) (by omega)]) (as s hs)
  · rw [eO] at ho
    obtain ⟨c1, c2⟩ := ao o ho
    exact ⟨by rw [e _ (by omega) (by omega) (by omega), rf_ord, hw _ (by omega)]; exact c1, by rw [e _ (by omega) (by omega) (by omega), rf_ord, hw _ (by omega)]; exact c2⟩
theorem cl_booked {h h' : am_H} {b : Nat} {w : rf_W} {z : Nat} {x : Int32} (hI : rf_I w) (hz : z < rf_S w) (L : cl_Lo h b w) (S : cl_Sc h (b + 21) w) (e7 : h' (b + 7) = upd (h (b + 7)) z (h (b + 7) z ||| x)) (e : ∀ i, b ≤ i → i ≤ b + 35 → i ≠ b + 7 → h' i = h i) : cl_Lo h' b (upd w (61 + 23 * z + 22) (rf_of w z 22 ||| x)) ∧ cl_Sc h' (b + 21) (upd w (61 + 23 * z + 22) (rf_of w z 22 ||| x)) := by
  have hM : rf_M w < 17 := hI.1.1.2
  have hS : rf_S w < 11 := hI.1.2.1.2
  have hO : rf_O w < 11 := hI.1.2.2.2
  have hw : ∀ a, a ≠ 61 + 23 * z + 22 → upd w (61 + 23 * z + 22) (rf_of w z 22 ||| x) a = w a := fun a h1 => rf_upd_ne h1
  have hw2 : upd w (61 + 23 * z + 22) (rf_of w z 22 ||| x) (61 + 23 * z + 22) = (rf_of w z 22 ||| x) := rf_upd_eq
  generalize upd w (61 + 23 * z + 22) (rf_of w z 22 ||| x) = w' at hw hw2 ⊢
  have hE : rf_Ew w w' := fun a ha => hw a (by omega)
  have m1 : ∀ o, o < 16 → rf_mem w' o 1 = rf_mem w o 1 := fun o _ => hw _ (by omega)
  have eM : rf_M w' = rf_M w := by rw [rf_M, rf_M, hw 0 (by omega)]
  have eS : rf_S w' = rf_S w := by rw [rf_S, rf_S, hw 1 (by omega)]
  have eO : rf_O w' = rf_O w := by rw [rf_O, rf_O, hw 2 (by omega)]
  have eo : ∀ s, ∀ k, k < 22 → rf_of w' s k = rf_of w s k := fun s k hk => hw _ (by omega)
  obtain ⟨⟨a0, a1, a2, a3⟩, am, as, ao, ap⟩ := L
  refine ⟨⟨⟨?_, ?_, ?_, ?_⟩, fun m hm => ?_, fun s hs => ?_, fun o ho => ?_, ?_, ?_⟩, cl_Sc_lore hI hE (fun i h1 h3 => e i (by omega) (by omega) (by omega)) eS (fun s _ => eo s) (fun s _ => rf_usable_c m1 eM hM) S⟩
  · rw [e b (by omega) (by omega) (by omega), hw 3 (by omega)]; exact a0
  · rw [e b (by omega) (by omega) (by omega), hw 0 (by omega)]; exact a1
  · rw [e b (by omega) (by omega) (by omega), hw 1 (by omega)]; exact a2
  · rw [e b (by omega) (by omega) (by omega), hw 2 (by omega)]; exact a3
  · rw [eM] at hm
    obtain ⟨c1, c2, c3, c4, c5⟩ := am m hm
    exact ⟨by rw [e _ (by omega) (by omega) (by omega), rf_mem, hw _ (by omega)]; exact c1, by rw [e _ (by omega) (by omega) (by omega), m1 m (by omega)]; exact c2, by rw [e _ (by omega) (by omega) (by omega), rf_bears_c m1 (by omega)]; exact c3, by rw [e _ (by omega) (by omega) (by omega), rf_rests_c m1 eM hM]; exact c4, by rw [e _ (by omega) (by omega) (by omega), rf_mem, hw _ (by omega)]; exact c5⟩
  · rw [eS] at hs
    by_cases ez : s = z
    · subst ez
      obtain ⟨c1, c2, c3, c4⟩ := as s hs
      have h7 : rf_ofn w s 2 < 7 := (hI.2.1 s hs).2.1.2
      refine ⟨by rw [e _ (by omega) (by omega) (by omega), eo s 0 (by omega)]; exact c1, by rw [e7, rf_upd_eq, rf_of, hw2, c2], by rw [e _ (by omega) (by omega) (by omega), eo s 2 (by omega)]; exact c3, fun k hk => ?_⟩
      have hk2 : k < rf_ofn w s 2 := by rw [rf_ofn, eo s 2 (by omega)] at hk; exact hk
      rw [e _ (by omega) (by omega) (by omega), eo s _ (by omega)]; exact c4 k hk2
    · exact cl_lS_c (hI.2.1 s hs).2.1.2 (fun k hk => hw _ (by omega)) (by rw [e _ (by omega) (by omega) (by omega)]) (by rw [e7, rf_upd_ne ez]) (by rw [e _ (by omega) (by omega) (by omega)]) (fun k _ => by rw [e _ (by omega) (by omega) (by omega)]) (as s hs)
  · rw [eO] at ho
    obtain ⟨c1, c2⟩ := ao o ho
    exact ⟨by rw [e _ (by omega) (by omega) (by omega), rf_ord, hw _ (by omega)]; exact c1, by rw [e _ (by omega) (by omega) (by omega), rf_ord, hw _ (by omega)]; exact c2⟩
  · rw [e _ (by omega) (by omega) (by omega), hw 11 (by omega)]; exact ap.1
  · rw [e _ (by omega) (by omega) (by omega), hw 12 (by omega)]; exact ap.2
def rf_ordW (w : rf_W) (z : Int32) (x : Int32) : rf_W := upd (upd (upd w (291 + 2 * rf_O w) z) (291 + 2 * rf_O w + 1) x) 2 (nI (rf_O w + 1))
theorem cl_ordered {h h' : am_H} {b : Nat} {w : rf_W} {z x : Int32} (hI : rf_I w) (h10 : rf_O w < 10) (L : cl_Lo h b w) (S : cl_Sc h (b + 21) w) (e0 : h' b = upd (h b) 3 (nI (rf_O w + 1))) (e10 : h' (b + 10) = upd (h (b + 10)) (rf_O w) z) (e11 : h' (b + 11) = upd (h (b + 11)) (rf_O w) x) (e : ∀ i, b < i → i ≤ b + 35 → i ≠ b + 10 → i ≠ b + 11 → h' i = h i) : cl_Lo h' b (rf_ordW w z x) ∧ cl_Sc h' (b + 21) (rf_ordW w z x) := by
  have hM : rf_M w < 17 := hI.1.1.2
  have hS : rf_S w < 11 := hI.1.2.1.2
  have hw : ∀ a, a ≠ 291 + 2 * rf_O w → a ≠ 291 + 2 * rf_O w + 1 → a ≠ 2 → rf_ordW w z x a = w a := fun a h1 h2 h3 => by rw [rf_ordW, rf_upd_ne h3, rf_upd_ne h2, rf_upd_ne h1]
  have hw2 : rf_ordW w z x 2 = nI (rf_O w + 1) := rf_upd_eq
  have hwa : rf_ordW w z x (291 + 2 * rf_O w) = z := by rw [rf_ordW, rf_upd_ne (by omega), rf_upd_ne (by omega), rf_upd_eq]
  have hwb : rf_ordW w z x (291 + 2 * rf_O w + 1) = x := by rw [rf_ordW, rf_upd_ne (by omega), rf_upd_eq]
  generalize rf_ordW w z x = w' at hw hw2 hwa hwb ⊢
  have hE : rf_Ew w w' := fun a ha => hw a (by omega) (by omega) (by omega)
  have m1 : ∀ o, o < 16 → rf_mem w' o 1 = rf_mem w o 1 := fun o _ => hw _ (by omega) (by omega) (by omega)
  have eM : rf_M w' = rf_M w := by rw [rf_M, rf_M, hw 0 (by omega) (by omega) (by omega)]
  have eS : rf_S w' = rf_S w := by rw [rf_S, rf_S, hw 1 (by omega) (by omega) (by omega)]
  have eO : rf_O w' = rf_O w + 1 := by rw [rf_O, hw2, rf_nat_nI (by omega)]
  have eo : ∀ s, s < rf_S w → ∀ k, k < 23 → rf_of w' s k = rf_of w s k := fun s hs k hk => hw _ (by omega) (by omega) (by omega)
  obtain ⟨⟨a0, a1, a2, a3⟩, am, as, ao, ap⟩ := L
  refine ⟨⟨⟨?_, ?_, ?_, ?_⟩, fun m hm => ?_, fun s hs => ?_, fun o ho => ?_, ?_, ?_⟩, cl_Sc_lore hI hE (fun i h1 h3 => e i (by omega) (by omega) (by omega) (by omega)) eS (fun s hs k hk => eo s hs k (by omega)) (fun s _ => rf_usable_c m1 eM hM) S⟩
  · rw [e0, rf_upd_ne (by omega), hw 3 (by omega) (by omega) (by omega)]; exact a0
  · rw [e0, rf_upd_ne (by omega), hw 0 (by omega) (by omega) (by omega)]; exact a1
  · rw [e0, rf_upd_ne (by omega), hw 1 (by omega) (by omega) (by omega)]; exact a2
  · rw [e0, rf_upd_eq, hw2]
  · rw [eM] at hm
    obtain ⟨c1, c2, c3, c4, c5⟩ := am m hm
    exact ⟨by rw [e _ (by omega) (by omega) (by omega) (by omega), rf_mem, hw _ (by omega) (by omega) (by omega)]; exact c1, by rw [e _ (by omega) (by omega) (by omega) (by omega), m1 m (by omega)]; exact c2, by rw [e _ (by omega) (by omega) (by omega) (by omega), rf_bears_c m1 (by omega)]; exact c3, by rw [e _ (by omega) (by omega) (by omega) (by omega), rf_rests_c m1 eM hM]; exact c4, by rw [e _ (by omega) (by omega) (by omega) (by omega), rf_mem, hw _ (by omega) (by omega) (by omega)]; exact c5⟩
  · rw [eS] at hs
    exact cl_lS_c (hI.2.1 s hs).2.1.2 (eo s hs) (by rw [e _ (by omega) (by omega) (by omega) (by omega)]) (by rw [e _ (by omega) (by omega) (by omega) (by omega)]) (by rw [e _ (by omega) (by omega) (by omega) (by omega)]) (fun k _ => by rw [e _ (by omega) (by omega) (by omega) (by omega)]) (as s hs)
  · rw [eO] at ho
    by_cases eo' : o = rf_O w
    · subst eo'
      exact ⟨by rw [e10, rf_upd_eq, rf_ord, Nat.add_zero, hwa], by rw [e11, rf_upd_eq, rf_ord, hwb]⟩
    · obtain ⟨c1, c2⟩ := ao o (by omega)
      exact ⟨by rw [e10, rf_upd_ne eo', rf_ord, hw _ (by omega) (by omega) (by omega)]; exact c1, by rw [e11, rf_upd_ne eo', rf_ord, hw _ (by omega) (by omega) (by omega)]; exact c2⟩
  · rw [e _ (by omega) (by omega) (by omega) (by omega), hw 11 (by omega) (by omega) (by omega)]; exact ap.1
  · rw [e _ (by omega) (by omega) (by omega) (by omega), hw 12 (by omega) (by omega) (by omega)]; exact ap.2
end DRAFT
