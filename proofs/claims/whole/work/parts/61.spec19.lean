/-! THE CLASS'S SCENE through what changes: one learns, one loses, something lies, a shot is logged, all go on -/
section SPEC19
/-- only what a scene holds has changed -/
def rf_Es (w w' : rf_W) : Prop := (∀ a, (a < 5 ∨ (11 ≤ a ∧ a < 61) ∨ (291 ≤ a ∧ a < 311) ∨ 731 ≤ a) → w' a = w a) ∧ ∀ s k, s < 10 → (k = 0 ∨ (2 ≤ k ∧ k < 9) ∨ k = 22) → rf_of w' s k = rf_of w s k
theorem rf_Es.rf {w : rf_W} : rf_Es w w := ⟨fun _ _ => rfl, fun _ _ _ _ => rfl⟩
theorem rf_Es.tr {w1 w2 w3 : rf_W} (h : rf_Es w1 w2) (g : rf_Es w2 w3) : rf_Es w1 w3 := ⟨fun a ha => (g.1 a ha).trans (h.1 a ha), fun s k a b => (g.2 s k a b).trans (h.2 s k a b)⟩
theorem rf_Es.M {w w' : rf_W} (E : rf_Es w w') : rf_M w' = rf_M w := by rw [rf_M, rf_M, E.1 0 (by omega)]
theorem rf_Es.S {w w' : rf_W} (E : rf_Es w w') : rf_S w' = rf_S w := by rw [rf_S, rf_S, E.1 1 (by omega)]
theorem rf_Es.O {w w' : rf_W} (E : rf_Es w w') : rf_O w' = rf_O w := by rw [rf_O, rf_O, E.1 2 (by omega)]
theorem rf_Es.m {w w' : rf_W} (E : rf_Es w w') {m k : Nat} (hm : m < 16) (hk : k < 3) : rf_mem w' m k = rf_mem w m k := E.1 _ (by omega)
theorem rf_bdn_congr {w w' : rf_W} : ∀ n, (∀ o, o < n → rf_mem w' o 1 = rf_mem w o 1) → ∀ b, rf_bdn w' n b = rf_bdn w n b
  | 0, _, _ => rfl
  | n + 1, h, b => by rw [rf_bdn, rf_bdn, h n (by omega), rf_bdn_congr n (fun o ho => h o (by omega))]
theorem rf_Es.bears {w w' : rf_W} (E : rf_Es w w') {m : Nat} (hm : m < 16) : rf_bears w' m = rf_bears w m := by
  rw [rf_bears, rf_bears, E.m hm (by omega)]
  exact rf_bdn_congr m (fun o ho => E.m (by omega) (by omega)) _
theorem rf_set_congr {p q : Nat → Bool} : ∀ n, (∀ k, k < n → p k = q k) → rf_set p n = rf_set q n
  | 0, _ => rfl
  | n + 1, h => by rw [rf_set, rf_set, rf_set_congr n (fun k hk => h k (by omega)), h n (by omega)]
theorem rf_Es.rests {w w' : rf_W} (E : rf_Es w w') (hM : rf_M w < 17) {m : Nat} : rf_rests w' m = rf_rests w m := by
  rw [rf_rests, rf_rests, E.M]
  exact rf_set_congr _ (fun o ho => by rw [E.bears (by omega)])
theorem rf_usa_congr {w w' : rf_W} {x : Int32} : ∀ n, (∀ o, o < n → rf_mem w' o 1 = rf_mem w o 1) → rf_usa w' x n = rf_usa w x n
  | 0, _ => rfl
  | n + 1, h => by rw [rf_usa, rf_usa, rf_usa_congr n (fun o ho => h o (by omega)), h n (by omega)]
theorem rf_Es.usable {w w' : rf_W} (E : rf_Es w w') (hM : rf_M w < 17) {x : Int32} : rf_usable w' x = rf_usable w x := by
  rw [rf_usable, rf_usable, E.M]
  exact rf_usa_congr _ (fun o ho => E.m (by omega) (by omega))
theorem cl_Lo_Es {h : am_H} {b : Nat} {w w' : rf_W} (hI : rf_I w) (E : rf_Es w w') (L : cl_Lo h b w) : cl_Lo h b w' := by
  have hM : rf_M w < 17 := hI.1.1.2
  have hS : rf_S w < 11 := hI.1.2.1.2
  have hO : rf_O w < 11 := hI.1.2.2.2
  obtain ⟨⟨a0, a1, a2, a3⟩, am, as, ao, ap⟩ := L
  refine ⟨⟨by rw [E.1 3 (by omega)]; exact a0, by rw [E.1 0 (by omega)]; exact a1, by rw [E.1 1 (by omega)]; exact a2, by rw [E.1 2 (by omega)]; exact a3⟩, fun m hm => ?_, fun s hs => ?_, fun o ho => ?_, by rw [E.1 11 (by omega)]; exact ap.1, by rw [E.1 12 (by omega)]; exact ap.2⟩
  · rw [E.M] at hm
    obtain ⟨c1, c2, c3, c4, c5⟩ := am m hm
    exact ⟨by rw [E.m (by omega) (by omega)]; exact c1, by rw [E.m (by omega) (by omega)]; exact c2, by rw [E.bears (by omega)]; exact c3, by rw [E.rests hM]; exact c4, by rw [E.m (by omega) (by omega)]; exact c5⟩
  · rw [E.S] at hs
    obtain ⟨c1, c2, c3, c4⟩ := as s hs
    have h7 : rf_ofn w s 2 < 7 := (hI.2.1 s hs).2.1.2
    refine ⟨by rw [E.2 s 0 (by omega) (by omega)]; exact c1, by rw [E.2 s 22 (by omega) (by omega)]; exact c2, by rw [E.2 s 2 (by omega) (by omega)]; exact c3, fun k hk => ?_⟩
    rw [rf_ofn, E.2 s 2 (by omega) (by omega)] at hk
    have hk2 : k < rf_ofn w s 2 := hk
    rw [E.2 s (3 + k) (by omega) (by omega)]; exact c4 k hk2
  · rw [E.O] at ho
    obtain ⟨c1, c2⟩ := ao o ho
    exact ⟨by rw [rf_ord, E.1 _ (by omega)]; exact c1, by rw [rf_ord, E.1 _ (by omega)]; exact c2⟩
theorem cl_La_Es {h : am_H} {b : Nat} {w w' : rf_W} (E : rf_Es w w') (L : cl_La h b w) : cl_La h b w' := by
  obtain ⟨l1, l2⟩ := L
  have e4 := E.1 4 (by omega)
  have e731 := E.1 731 (by omega)
  refine ⟨fun h0 => l1 (by rw [← e4]; exact h0), fun h0 => ?_⟩
  rw [e4] at h0
  obtain ⟨k1, k2⟩ := l2 h0
  refine ⟨by rw [e731]; exact k1, fun n hn => ?_⟩
  rw [e731] at hn
  obtain ⟨c1, c2, c3, c4, c5⟩ := k2 n hn
  have f2 := E.1 (732 + 4 * n + 2) (by omega)
  have f3 := E.1 (732 + 4 * n + 3) (by omega)
  refine ⟨by rw [E.1 _ (by omega)]; exact c1, by rw [E.1 _ (by omega)]; exact c2, by rw [f2]; exact c3, by rw [f3]; exact c4, fun i h1 h2 => ?_⟩
  rw [f2] at h1
  rw [f3] at h2
  rw [c5 i h1 h2, cl_op, cl_op, rf_sc, rf_sc, E.1 (780 + 2 * i) (by omega), E.1 (780 + 2 * i + 1) (by omega)]
theorem rf_bits_congr {f g : Nat → Nat} : ∀ n, (∀ k, k < n → f k = g k) → rf_bits f n = rf_bits g n
  | 0, _ => rfl
  | n + 1, h => by rw [rf_bits, rf_bits, rf_bits_congr n (fun k hk => h k (by omega)), h n (by omega)]
/-- a soldier as he was -/
theorem rf_known_congr {w w' : rf_W} {s : Nat} (h : ∀ k, 9 ≤ k → k < 22 → rf_of w' s k = rf_of w s k) : rf_known w' s = rf_known w s := by
  have ek : rf_kn w' s = rf_kn w s := by rw [rf_kn, rf_kn, rf_ofn, rf_ofn, h 9 (by omega) (by omega)]
  rw [rf_known, rf_known, rf_first, rf_first, ek]
  exact rf_bits_congr _ (fun k hk => by rw [rf_li, rf_li, rf_ofn, rf_ofn, h (10 + k) (by omega) (by omega)])
theorem cl_sol_congr {h h' : am_H} {b : Nat} {w w' : rf_W} {s : Nat} (hI : rf_Is w s) (hM : rf_M w < 17) (E : rf_Es w w') (hof : ∀ k, k < 23 → rf_of w' s k = rf_of w s k)
    (e1 : h' (b + 1) s = h (b + 1) s) (e2 : h' (b + 2) s = h (b + 2) s) (e3 : h' (b + 3) s = h (b + 3) s) (e4 : h' (b + 4) s = h (b + 4) s) (e5 : h' (b + 5) s = h (b + 5) s) (e6 : ∀ k, k < 12 → h' (b + 6) (s * 12 + k) = h (b + 6) (s * 12 + k))
    (S : h (b + 1) s = rf_of w s 1 ∧ h (b + 2) s = rf_pl w s ∧ h (b + 3) s = rf_of w s 9 ∧ h (b + 4) s = rf_known w s ∧ h (b + 5) s = rf_use w s ∧ ∀ k, k < rf_kn w s → h (b + 6) (s * 12 + k) = rf_of w s (10 + k)) :
    h' (b + 1) s = rf_of w' s 1 ∧ h' (b + 2) s = rf_pl w' s ∧ h' (b + 3) s = rf_of w' s 9 ∧ h' (b + 4) s = rf_known w' s ∧ h' (b + 5) s = rf_use w' s ∧ ∀ k, k < rf_kn w' s → h' (b + 6) (s * 12 + k) = rf_of w' s (10 + k) := by
  have hk : rf_kn w s < 13 := hI.2.2.2.2.1.2
  have h7 : rf_ofn w s 2 < 7 := hI.2.1.2
  have h1n : rf_ofn w s 1 < rf_ofn w s 2 := hI.2.2.1.2
  have ek : rf_kn w' s = rf_kn w s := by rw [rf_kn, rf_kn, rf_ofn, rf_ofn, hof 9 (by omega)]
  have ekn := rf_known_congr (w := w) (w' := w') (s := s) (fun k _ h2 => hof k (by omega))
  have epl : rf_pl w' s = rf_pl w s := by rw [rf_pl, rf_pl, rf_ofn, hof 1 (by omega)]; exact hof _ (by show 3 + rf_ofn w s 1 < 23; omega)
  obtain ⟨c1, c2, c3, c4, c5, c6⟩ := S
  refine ⟨by rw [e1, hof 1 (by omega)]; exact c1, by rw [e2, epl]; exact c2, by rw [e3, hof 9 (by omega)]; exact c3, by rw [e4, ekn]; exact c4, by rw [e5, rf_use, ekn, E.usable hM]; exact c5, fun k hk' => ?_⟩
  rw [ek] at hk'
  rw [e6 k (by omega), hof (10 + k) (by omega)]
  exact c6 k hk'
theorem rf_Es_app {w : rf_W} {s m : Nat} (hs : s < 10) (hk : rf_kn w s < 12) : rf_Es w (rf_app w s m) := by
  have ho : ∀ a, a ≠ 61 + 23 * s + (10 + rf_kn w s) → a ≠ 61 + 23 * s + 9 → rf_app w s m a = w a := fun a h1 h2 => by rw [rf_app, rf_upd_ne h2, rf_upd_ne h1]
  exact ⟨fun a ha => ho a (by omega) (by omega), fun t k ht hk => ho _ (by omega) (by omega)⟩
/-- one knows one more -/
theorem cl_Sc_app {h h' : am_H} {b : Nat} {w : rf_W} {s m : Nat} (hI : rf_I w) (hs : s < rf_S w) (hk : rf_kn w s < 12) (hm : m < rf_M w) (S : cl_Sc h b w)
    (e0 : h' b = h b) (e1 : h' (b + 1) = h (b + 1)) (e2 : h' (b + 2) = h (b + 2)) (e3 : h' (b + 3) = upd (h (b + 3)) s (nI (rf_kn w s + 1))) (e4 : h' (b + 4) = upd (h (b + 4)) s (rf_known w s ||| (nI 1 <<< (nI m &&& 31)))) (e5 : h' (b + 5) = upd (h (b + 5)) s (rf_usable w (rf_known w s ||| (nI 1 <<< (nI m &&& 31))))) (e6 : h' (b + 6) = upd (h (b + 6)) (s * 12 + rf_kn w s) (nI m))
    (e7 : ∀ i, 7 ≤ i → i ≤ 14 → h' (b + i) = h (b + i)) : cl_Sc h' b (rf_app w s m) := by
  have hM : rf_M w < 17 := hI.1.1.2
  have hS : rf_S w < 11 := hI.1.2.1.2
  have E := rf_Es_app (m := m) (show s < 10 by omega) hk
  have ho : ∀ a, a ≠ 61 + 23 * s + (10 + rf_kn w s) → a ≠ 61 + 23 * s + 9 → rf_app w s m a = w a := fun a h1 h2 => by rw [rf_app, rf_upd_ne h2, rf_upd_ne h1]
  have e9 : rf_of (rf_app w s m) s 9 = nI (rf_kn w s + 1) := by rw [rf_of, rf_app, rf_upd_eq]
  have el : rf_of (rf_app w s m) s (10 + rf_kn w s) = nI m := by rw [rf_of, rf_app, rf_upd_ne (by omega), rf_upd_eq]
  generalize rf_app w s m = w' at E ho e9 el ⊢
  have eF : rf_F w' = rf_F w := by rw [rf_F, rf_F, ho 6 (by omega) (by omega)]
  have eG : rf_G w' = rf_G w := by rw [rf_G, rf_G, ho 9 (by omega) (by omega)]
  have ek : rf_kn w' s = rf_kn w s + 1 := by rw [rf_kn, rf_ofn, e9, rf_nat_nI (by omega)]
  have ekn : rf_known w' s = rf_known w s ||| (nI 1 <<< (nI m &&& 31)) := by
    rw [rf_known, rf_known, rf_first, rf_first, ek, Nat.min_eq_left (by omega), Nat.min_eq_left (by omega), rf_bits]
    rw [rf_bits_congr (g := rf_li w s) _ (fun k hk' => by rw [rf_li, rf_li, rf_ofn, rf_ofn, rf_of, ho _ (by omega) (by omega)]; rfl)]
    rw [rf_li, rf_ofn, el, rf_nat_nI (by omega)]
  obtain ⟨⟨a0, a1, a2, a3, a4⟩, as, af, aG, al⟩ := S
  have hG : rf_G w < 61 := hI.2.2.2.2.1.2.2.2.2
  have hF : rf_F w < 41 := hI.2.2.2.2.1.2.2.1.2
  refine ⟨⟨by rw [e0, ho 5 (by omega) (by omega)]; exact a0, by rw [e0, ho 10 (by omega) (by omega)]; exact a1, by rw [e0, ho 7 (by omega) (by omega)]; exact a2, by rw [e0, ho 8 (by omega) (by omega)]; exact a3, by rw [e0, ho 6 (by omega) (by omega)]; exact a4⟩, fun t ht => ?_, fun f hf => ?_, by rw [eG, ho 7 (by omega) (by omega)]; exact aG, fun a ha => ?_⟩
  · rw [E.S] at ht
    by_cases e : t = s
    · subst e
      obtain ⟨c1, c2, c3, c4, c5, c6⟩ := as t ht
      have h1n : rf_ofn w t 1 < rf_ofn w t 2 := (hI.2.1 t ht).2.2.1.2
      have h7 : rf_ofn w t 2 < 7 := (hI.2.1 t ht).2.1.2
      have o1 : rf_of w' t 1 = rf_of w t 1 := ho _ (by omega) (by omega)
      have epl : rf_pl w' t = rf_pl w t := by rw [rf_pl, rf_pl, rf_ofn, o1]; exact ho _ (by show 61 + 23 * t + (3 + rf_ofn w t 1) ≠ _; omega) (by show 61 + 23 * t + (3 + rf_ofn w t 1) ≠ _; omega)
      refine ⟨by rw [e1, o1]; exact c1, by rw [e2, epl]; exact c2, by rw [e3, rf_upd_eq, e9], by rw [e4, rf_upd_eq, ekn], by rw [e5, rf_upd_eq, rf_use, ekn, E.usable hM], fun k hk' => ?_⟩
      rw [ek] at hk'
      rw [e6]
      by_cases e : k = rf_kn w t
      · subst e; rw [rf_upd_eq, el]
      · rw [rf_upd_ne (by omega), rf_of, ho _ (by omega) (by omega)]; exact c6 k (by omega)
    · exact cl_sol_congr (hI.2.1 t ht) hM E (fun k hk' => ho _ (by omega) (by omega)) (by rw [e1]) (by rw [e2]) (by rw [e3, rf_upd_ne e]) (by rw [e4, rf_upd_ne e]) (by rw [e5, rf_upd_ne e]) (fun k hk' => by rw [e6, rf_upd_ne (by omega)]) (as t ht)
  · rw [eF] at hf
    obtain ⟨c1, c2, c3⟩ := af f hf
    exact ⟨by rw [e7 7 (by omega) (by omega), rf_fld, ho _ (by omega) (by omega)]; exact c1, by rw [e7 8 (by omega) (by omega), rf_fld, ho _ (by omega) (by omega)]; exact c2, by rw [e7 9 (by omega) (by omega), rf_fld, ho _ (by omega) (by omega)]; exact c3⟩
  · rw [eG] at ha
    obtain ⟨c1, c2, c3, c4, c5⟩ := al a ha
    have er : cl_row w' a = cl_row w a := by rw [cl_row, cl_row, ho 7 (by omega) (by omega)]
    rw [er]
    exact ⟨by rw [e7 10 (by omega) (by omega), rf_log, ho _ (by omega) (by omega)]; exact c1, by rw [e7 11 (by omega) (by omega), rf_log, ho _ (by omega) (by omega)]; exact c2, by rw [e7 12 (by omega) (by omega), rf_log, ho _ (by omega) (by omega)]; exact c3, by rw [e7 13 (by omega) (by omega), rf_log, ho _ (by omega) (by omega)]; exact c4, by rw [e7 14 (by omega) (by omega), rf_log, ho _ (by omega) (by omega)]; exact c5⟩
/-- a number of the scene that nothing else rests on: the learnt ones, the hour, the seed -/
theorem cl_Sc_num {h h' : am_H} {b k a : Nat} {w : rf_W} {v : Int32} (hI : rf_I w) (S : cl_Sc h b w) (hka : (k = 0 ∧ a = 5) ∨ (k = 1 ∧ a = 10) ∨ (k = 3 ∧ a = 8)) (e0 : h' b = upd (h b) k v) (e1 : ∀ i, 1 ≤ i → i ≤ 14 → h' (b + i) = h (b + i)) : cl_Sc h' b (upd w a v) := by
  have hM : rf_M w < 17 := hI.1.1.2
  have hS : rf_S w < 11 := hI.1.2.1.2
  have ho : ∀ q, q ≠ a → upd w a v q = w q := fun q hq => rf_upd_ne hq
  have hw : upd w a v a = v := rf_upd_eq
  generalize upd w a v = w' at ho hw ⊢
  have E : rf_Es w w' := ⟨fun q hq => ho q (by omega), fun t j ht hj => ho _ (by omega)⟩
  have eF : rf_F w' = rf_F w := by rw [rf_F, rf_F, ho 6 (by omega)]
  have eG : rf_G w' = rf_G w := by rw [rf_G, rf_G, ho 9 (by omega)]
  obtain ⟨⟨a0, a1, a2, a3, a4⟩, as, af, aG, al⟩ := S
  have hG : rf_G w < 61 := hI.2.2.2.2.1.2.2.2.2
  have hF : rf_F w < 41 := hI.2.2.2.2.1.2.2.1.2
  refine ⟨⟨?_, ?_, ?_, ?_, ?_⟩, fun t ht => ?_, fun f hf => ?_, by rw [eG, ho 7 (by omega)]; exact aG, fun q hq => ?_⟩
  · rcases hka with ⟨rfl, rfl⟩ | ⟨rfl, rfl⟩ | ⟨rfl, rfl⟩
    · rw [e0, rf_upd_eq, hw]
    · rw [e0, rf_upd_ne (by omega), ho 5 (by omega)]; exact a0
    · rw [e0, rf_upd_ne (by omega), ho 5 (by omega)]; exact a0
  · rcases hka with ⟨rfl, rfl⟩ | ⟨rfl, rfl⟩ | ⟨rfl, rfl⟩
    · rw [e0, rf_upd_ne (by omega), ho 10 (by omega)]; exact a1
    · rw [e0, rf_upd_eq, hw]
    · rw [e0, rf_upd_ne (by omega), ho 10 (by omega)]; exact a1
  · rw [e0, rf_upd_ne (by omega), ho 7 (by omega)]; exact a2
  · rcases hka with ⟨rfl, rfl⟩ | ⟨rfl, rfl⟩ | ⟨rfl, rfl⟩
    · rw [e0, rf_upd_ne (by omega), ho 8 (by omega)]; exact a3
    · rw [e0, rf_upd_ne (by omega), ho 8 (by omega)]; exact a3
    · rw [e0, rf_upd_eq, hw]
  · rw [e0, rf_upd_ne (by omega), ho 6 (by omega)]; exact a4
  · rw [E.S] at ht
    exact cl_sol_congr (hI.2.1 t ht) hM E (fun k hk' => ho _ (by omega)) (by rw [e1 1 (by omega) (by omega)]) (by rw [e1 2 (by omega) (by omega)]) (by rw [e1 3 (by omega) (by omega)]) (by rw [e1 4 (by omega) (by omega)]) (by rw [e1 5 (by omega) (by omega)]) (fun k hk' => by rw [e1 6 (by omega) (by omega)]) (as t ht)
  · rw [eF] at hf
    obtain ⟨c1, c2, c3⟩ := af f hf
    exact ⟨by rw [e1 7 (by omega) (by omega), rf_fld, ho _ (by omega)]; exact c1, by rw [e1 8 (by omega) (by omega), rf_fld, ho _ (by omega)]; exact c2, by rw [e1 9 (by omega) (by omega), rf_fld, ho _ (by omega)]; exact c3⟩
  · rw [eG] at hq
    obtain ⟨c1, c2, c3, c4, c5⟩ := al q hq
    have er : cl_row w' q = cl_row w q := by rw [cl_row, cl_row, ho 7 (by omega)]
    rw [er]
    exact ⟨by rw [e1 10 (by omega) (by omega), rf_log, ho _ (by omega)]; exact c1, by rw [e1 11 (by omega) (by omega), rf_log, ho _ (by omega)]; exact c2, by rw [e1 12 (by omega) (by omega), rf_log, ho _ (by omega)]; exact c3, by rw [e1 13 (by omega) (by omega), rf_log, ho _ (by omega)]; exact c4, by rw [e1 14 (by omega) (by omega), rf_log, ho _ (by omega)]; exact c5⟩
end SPEC19
