/-! THE CLASS'S SCENE through what changes, second part -/
section SPEC20
def cl_fg (f : rf_W) (w : rf_W) (s m : Nat) : Nat → rf_W × Nat
  | 0 => (f, 0)
  | k + 1 => if rf_li w s k = m then cl_fg f w s m k else (upd (cl_fg f w s m k).1 (s * 12 + (cl_fg f w s m k).2) (nI (rf_li w s k)), (cl_fg f w s m k).2 + 1)
theorem cl_fg_ok {f w : rf_W} {s m : Nat} (hI : rf_Is w s) (hP : rf_pos w s m < rf_kn w s) (hm : rf_li w s (rf_pos w s m) = m) : ∀ k, k ≤ rf_kn w s → (cl_fg f w s m k).2 = (if k ≤ rf_pos w s m then k else k - 1) ∧ (∀ j, j < (cl_fg f w s m k).2 → (cl_fg f w s m k).1 (s * 12 + j) = nI (rf_li w s (if j < rf_pos w s m then j else j + 1))) ∧ ∀ a, (a < s * 12 ∨ s * 12 + (cl_fg f w s m k).2 ≤ a) → (cl_fg f w s m k).1 a = f a
  | 0, _ => ⟨rfl, fun j hj => absurd hj (Nat.not_lt_zero j), fun a _ => rfl⟩
  | k + 1, hk => by
    obtain ⟨i1, i2, i3⟩ := cl_fg_ok (f := f) hI hP hm k (by omega)
    rw [cl_fg]
    by_cases e : rf_li w s k = m
    · rw [if_pos e]
      have hkP : k = rf_pos w s m := hI.2.2.2.2.2.2.1 k _ (by omega) hP (by rw [e, hm])
      refine ⟨?_, i2, i3⟩
      rw [i1, if_pos (by omega), if_neg (by omega)]
      omega
    · rw [if_neg e]
      have hkP : k ≠ rf_pos w s m := fun z => e (by rw [z, hm])
      refine ⟨?_, fun j hj => ?_, fun a ha => ?_⟩
      · show (cl_fg f w s m k).2 + 1 = _
        rw [i1]
        split <;> split <;> omega
      · have hj2 : j < (cl_fg f w s m k).2 + 1 := hj
        show upd (cl_fg f w s m k).1 (s * 12 + (cl_fg f w s m k).2) (nI (rf_li w s k)) (s * 12 + j) = _
        by_cases e2 : j = (cl_fg f w s m k).2
        · rw [e2, rf_upd_eq, i1]
          congr 2
          split <;> split <;> omega
        · rw [rf_upd_ne (by omega)]
          exact i2 j (by omega)
      · have ha2 : a < s * 12 ∨ s * 12 + ((cl_fg f w s m k).2 + 1) ≤ a := ha
        show upd (cl_fg f w s m k).1 (s * 12 + (cl_fg f w s m k).2) (nI (rf_li w s k)) a = _
        rw [rf_upd_ne (by omega)]
        exact i3 a (by omega)
/-- one loses a memory -/
theorem cl_Sc_lose {h h' : am_H} {b : Nat} {w : rf_W} {s m : Nat} (hI : rf_I w) (hs : s < rf_S w) (hm : m < rf_M w) (hq : ∃ q, q < rf_kn w s ∧ rf_of w s (10 + q) = nI m) (S : cl_Sc h b w)
    (e0 : h' b = h b) (e1 : h' (b + 1) = h (b + 1)) (e2 : h' (b + 2) = h (b + 2)) (e3 : h' (b + 3) = upd (h (b + 3)) s (nI (rf_kn w s - 1))) (e4 : h' (b + 4) = upd (h (b + 4)) s (rf_known w s &&& ((nI 1 <<< (nI m &&& 31)) ^^^ (-1)))) (e5 : h' (b + 5) = upd (h (b + 5)) s (rf_usable w (rf_known w s &&& ((nI 1 <<< (nI m &&& 31)) ^^^ (-1))))) (e6 : h' (b + 6) = (cl_fg (h (b + 6)) w s m (rf_kn w s)).1)
    (e7 : ∀ i, 7 ≤ i → i ≤ 14 → h' (b + i) = h (b + i)) : cl_Sc h' b (rf_lose w s m) ∧ rf_Es w (rf_lose w s m) := by
  have hM : rf_M w < 17 := hI.1.1.2
  have hS : rf_S w < 11 := hI.1.2.1.2
  have hIs := hI.2.1 s hs
  have hkn : rf_kn w s < 13 := hIs.2.2.2.2.1.2
  obtain ⟨hP, hPv, -⟩ := rf_pos_spec hq
  have hPm : rf_li w s (rf_pos w s m) = m := by rw [rf_li, rf_ofn, hPv, rf_nat_nI (by omega)]
  obtain ⟨f1, f2, f3⟩ := cl_fg_ok (f := h (b + 6)) hIs hP hPm (rf_kn w s) (Nat.le_refl _)
  rw [if_neg (by omega)] at f1
  have I' := rf_I_lose hI hs hP
  have ho : ∀ a, (a < 61 + 23 * s ∨ 84 + 23 * s ≤ a) → rf_lose w s m a = w a := fun a ha => rf_lose_out hP hkn ha
  have hof : ∀ k, k < 23 → rf_of (rf_lose w s m) s k = if k = 9 then nI (rf_kn w s - 1) else if 10 + rf_pos w s m ≤ k ∧ k < 9 + rf_kn w s then rf_of w s (k + 1) else rf_of w s k := fun k hk => rf_lose_of hP hk hkn
  have ek := rf_lose_kn hP hkn
  have eli : ∀ k, k < rf_kn w s - 1 → rf_li (rf_lose w s m) s k = rf_li w s (if k < rf_pos w s m then k else k + 1) := fun k hk => rf_lose_li hP hkn hk
  have E : rf_Es w (rf_lose w s m) := ⟨fun a ha => ho a (by omega), fun t k ht hk => by
    by_cases e : t = s
    · subst e
      rw [hof k (by omega), if_neg (by omega), if_neg (by omega)]
    · exact ho _ (by omega)⟩
  have ekn : rf_known (rf_lose w s m) s = rf_known w s &&& ((nI 1 <<< (nI m &&& 31)) ^^^ (-1)) := by
    refine am_ext (fun j hj => ?_)
    have hIs' := I'.2.1 s (by rw [E.S]; exact hs)
    rw [Bool.eq_iff_iff, rf_known_bt hIs' (by rw [E.M]; exact hM) hj, am_bt_and, am_bt_not hj, am_bt_1 (by omega) hj, Bool.and_eq_true, Bool.not_eq_true', decide_eq_false_iff_not, rf_known_bt hIs hM hj, ek]
    constructor
    · rintro ⟨k, hk, hkj⟩
      rw [eli k hk] at hkj
      refine ⟨⟨_, by split <;> omega, hkj⟩, fun z => ?_⟩
      have := hIs.2.2.2.2.2.2.1 _ _ (by split <;> omega) hP (hkj.trans (z.trans hPm.symm))
      split at this <;> omega
    · rintro ⟨⟨k, hk, hkj⟩, hne⟩
      have hkP : k ≠ rf_pos w s m := fun z => hne (by rw [← hkj, z, hPm])
      refine ⟨if k < rf_pos w s m then k else k - 1, by split <;> omega, ?_⟩
      rw [eli _ (by split <;> omega), ← hkj]
      congr 1
      by_cases q : k < rf_pos w s m
      · rw [if_pos q, if_pos q]
      · rw [if_neg q, if_neg (show ¬ k - 1 < rf_pos w s m by omega)]; omega
  generalize rf_lose w s m = w' at E ho hof ek eli ekn I' ⊢
  have eF : rf_F w' = rf_F w := by rw [rf_F, rf_F, ho 6 (by omega)]
  have eG : rf_G w' = rf_G w := by rw [rf_G, rf_G, ho 9 (by omega)]
  obtain ⟨⟨a0, a1, a2, a3, a4⟩, as, af, aG, al⟩ := S
  have hG : rf_G w < 61 := hI.2.2.2.2.1.2.2.2.2
  have hF : rf_F w < 41 := hI.2.2.2.2.1.2.2.1.2
  refine ⟨⟨⟨by rw [e0, ho 5 (by omega)]; exact a0, by rw [e0, ho 10 (by omega)]; exact a1, by rw [e0, ho 7 (by omega)]; exact a2, by rw [e0, ho 8 (by omega)]; exact a3, by rw [e0, ho 6 (by omega)]; exact a4⟩, fun t ht => ?_, fun f hf => ?_, by rw [eG, ho 7 (by omega)]; exact aG, fun a ha => ?_⟩, E⟩
  · rw [E.S] at ht
    by_cases e : t = s
    · subst e
      obtain ⟨c1, c2, c3, c4, c5, c6⟩ := as t ht
      have h1n : rf_ofn w t 1 < rf_ofn w t 2 := hIs.2.2.1.2
      have h7 : rf_ofn w t 2 < 7 := hIs.2.1.2
      have os : ∀ k, k < 9 → rf_of w' t k = rf_of w t k := fun k hk => by rw [hof k (by omega), if_neg (by omega), if_neg (by omega)]
      have epl : rf_pl w' t = rf_pl w t := by rw [rf_pl, rf_pl, rf_ofn, os 1 (by omega)]; exact os _ (by show 3 + rf_ofn w t 1 < 9; omega)
      refine ⟨by rw [e1, os 1 (by omega)]; exact c1, by rw [e2, epl]; exact c2, by rw [e3, rf_upd_eq, hof 9 (by omega), if_pos rfl], by rw [e4, rf_upd_eq, ekn], by rw [e5, rf_upd_eq, rf_use, ekn, E.usable hM], fun k hk' => ?_⟩
      rw [ek] at hk'
      rw [e6, f2 k (by omega)]
      have := (I'.2.1 t (by rw [E.S]; exact hs)).2.2.2.2.2.1 k (by omega)
      rw [this.1, ← eli k hk']
      rfl
    · refine cl_sol_congr (hI.2.1 t ht) hM E (fun k hk' => ho _ (by omega)) (by rw [e1]) (by rw [e2]) (by rw [e3, rf_upd_ne e]) (by rw [e4, rf_upd_ne e]) (by rw [e5, rf_upd_ne e]) (fun k hk' => ?_) (as t ht)
      rw [e6]; exact f3 _ (by omega)
  · rw [eF] at hf
    obtain ⟨c1, c2, c3⟩ := af f hf
    exact ⟨by rw [e7 7 (by omega) (by omega), rf_fld, ho _ (by omega)]; exact c1, by rw [e7 8 (by omega) (by omega), rf_fld, ho _ (by omega)]; exact c2, by rw [e7 9 (by omega) (by omega), rf_fld, ho _ (by omega)]; exact c3⟩
  · rw [eG] at ha
    obtain ⟨c1, c2, c3, c4, c5⟩ := al a ha
    have er : cl_row w' a = cl_row w a := by rw [cl_row, cl_row, ho 7 (by omega)]
    rw [er]
    exact ⟨by rw [e7 10 (by omega) (by omega), rf_log, ho _ (by omega)]; exact c1, by rw [e7 11 (by omega) (by omega), rf_log, ho _ (by omega)]; exact c2, by rw [e7 12 (by omega) (by omega), rf_log, ho _ (by omega)]; exact c3, by rw [e7 13 (by omega) (by omega), rf_log, ho _ (by omega)]; exact c4, by rw [e7 14 (by omega) (by omega), rf_log, ho _ (by omega)]; exact c5⟩
/-- only the field has changed -/
theorem cl_Sc_fl {h h' : am_H} {b : Nat} {w w' : rf_W} (hI : rf_I w) (S : cl_Sc h b w) (ho : ∀ a, (a < 311 ∨ 431 ≤ a) → a ≠ 6 → w' a = w a) (e0 : ∀ k, k ≠ 4 → h' b k = h b k) (e4 : h' b 4 = w' 6) (e1 : ∀ i, 1 ≤ i → i ≤ 14 → i ≠ 7 → i ≠ 8 → i ≠ 9 → h' (b + i) = h (b + i))
    (ef : ∀ f, f < rf_F w' → h' (b + 7) f = rf_fld w' f 0 ∧ h' (b + 8) f = rf_fld w' f 1 ∧ h' (b + 9) f = rf_fld w' f 2) : cl_Sc h' b w' ∧ rf_Es w w' := by
  have hM : rf_M w < 17 := hI.1.1.2
  have hS : rf_S w < 11 := hI.1.2.1.2
  have E : rf_Es w w' := ⟨fun q hq => ho q (by omega) (by omega), fun t j ht hj => ho _ (by omega) (by omega)⟩
  have eG : rf_G w' = rf_G w := by rw [rf_G, rf_G, ho 9 (by omega) (by omega)]
  obtain ⟨⟨a0, a1, a2, a3, a4⟩, as, af, aG, al⟩ := S
  have hG : rf_G w < 61 := hI.2.2.2.2.1.2.2.2.2
  refine ⟨⟨⟨by rw [e0 0 (by omega), ho 5 (by omega) (by omega)]; exact a0, by rw [e0 1 (by omega), ho 10 (by omega) (by omega)]; exact a1, by rw [e0 2 (by omega), ho 7 (by omega) (by omega)]; exact a2, by rw [e0 3 (by omega), ho 8 (by omega) (by omega)]; exact a3, e4⟩, fun t ht => ?_, ef, by rw [eG, ho 7 (by omega) (by omega)]; exact aG, fun q hq => ?_⟩, E⟩
  · rw [E.S] at ht
    exact cl_sol_congr (hI.2.1 t ht) hM E (fun k hk' => ho _ (by omega) (by omega)) (by rw [e1 1 (by omega) (by omega) (by omega) (by omega) (by omega)]) (by rw [e1 2 (by omega) (by omega) (by omega) (by omega) (by omega)]) (by rw [e1 3 (by omega) (by omega) (by omega) (by omega) (by omega)]) (by rw [e1 4 (by omega) (by omega) (by omega) (by omega) (by omega)]) (by rw [e1 5 (by omega) (by omega) (by omega) (by omega) (by omega)]) (fun k hk' => by rw [e1 6 (by omega) (by omega) (by omega) (by omega) (by omega)]) (as t ht)
  · rw [eG] at hq
    obtain ⟨c1, c2, c3, c4, c5⟩ := al q hq
    have er : cl_row w' q = cl_row w q := by rw [cl_row, cl_row, ho 7 (by omega) (by omega)]
    rw [er]
    exact ⟨by rw [e1 10 (by omega) (by omega) (by omega) (by omega) (by omega), rf_log, ho _ (by omega) (by omega)]; exact c1, by rw [e1 11 (by omega) (by omega) (by omega) (by omega) (by omega), rf_log, ho _ (by omega) (by omega)]; exact c2, by rw [e1 12 (by omega) (by omega) (by omega) (by omega) (by omega), rf_log, ho _ (by omega) (by omega)]; exact c3, by rw [e1 13 (by omega) (by omega) (by omega) (by omega) (by omega), rf_log, ho _ (by omega) (by omega)]; exact c4, by rw [e1 14 (by omega) (by omega) (by omega) (by omega) (by omega), rf_log, ho _ (by omega) (by omega)]; exact c5⟩
/-- a thing is taken away -/
theorem cl_Sc_remove {h h' : am_H} {b k : Nat} {w : rf_W} (hI : rf_I w) (hk : k < rf_F w) (S : cl_Sc h b w) (e0 : h' b = upd (h b) 4 (nI (rf_F w - 1))) (e1 : ∀ i, 1 ≤ i → i ≤ 14 → i ≠ 7 → i ≠ 8 → i ≠ 9 → h' (b + i) = h (b + i))
    (e7 : h' (b + 7) = va_cpy (h (b + 7)) (h (b + 7)) (k + 1) k (rf_F w - 1 - k)) (e8 : h' (b + 8) = va_cpy (h (b + 8)) (h (b + 8)) (k + 1) k (rf_F w - 1 - k)) (e9 : h' (b + 9) = va_cpy (h (b + 9)) (h (b + 9)) (k + 1) k (rf_F w - 1 - k)) : cl_Sc h' b (rf_remove w k) ∧ rf_Es w (rf_remove w k) := by
  have hF : rf_F w < 41 := hI.2.2.2.2.1.2.2.1.2
  obtain ⟨-, -, af, -, -⟩ := id S
  refine cl_Sc_fl hI S (fun a ha h6 => rf_remove_out ha h6 hk hF) (fun j hj => by rw [e0, rf_upd_ne hj]) (by rw [e0, rf_upd_eq, rf_remove, rf_upd_eq]) e1 (fun f hf => ?_)
  rw [rf_remove_F hF] at hf
  have hj : (if f < k then f else f + 1) < rf_F w := by split <;> omega
  obtain ⟨c1, c2, c3⟩ := af _ hj
  have hc : ∀ g : rf_W, va_cpy g g (k + 1) k (rf_F w - 1 - k) f = g (if f < k then f else f + 1) := fun g => by
    rw [va_cpy]
    by_cases q : f < k
    · rw [if_neg (by omega), if_pos q]
    · rw [if_pos (by omega), if_neg q]; congr 1; omega
  rw [rf_remove_fld hk hf (by omega), rf_remove_fld hk hf (by omega), rf_remove_fld hk hf (by omega), e7, e8, e9, hc, hc, hc]
  exact ⟨c1, c2, c3⟩
/-- a thing is laid down where there is room -/
theorem cl_Sc_put {h h' : am_H} {b : Nat} {w : rf_W} {m p x : Int32} (hI : rf_I w) (hF : rf_F w < 40) (S : cl_Sc h b w) (e0 : h' b = upd (h b) 4 (nI (rf_F w + 1))) (e1 : ∀ i, 1 ≤ i → i ≤ 14 → i ≠ 7 → i ≠ 8 → i ≠ 9 → h' (b + i) = h (b + i))
    (e7 : h' (b + 7) = upd (h (b + 7)) (rf_F w) m) (e8 : h' (b + 8) = upd (h (b + 8)) (rf_F w) p) (e9 : h' (b + 9) = upd (h (b + 9)) (rf_F w) x) : cl_Sc h' b (rf_put w m p x) ∧ rf_Es w (rf_put w m p x) := by
  obtain ⟨-, -, af, -, -⟩ := id S
  refine cl_Sc_fl hI S (fun a ha h6 => rf_put_out ha h6 hF) (fun j hj => by rw [e0, rf_upd_ne hj]) (by rw [e0, rf_upd_eq, rf_put, rf_upd_eq]) e1 (fun f hf => ?_)
  rw [rf_put_F hF] at hf
  by_cases e : f = rf_F w
  · subst e
    obtain ⟨n1, n2, n3⟩ := rf_put_new (w := w) (m := m) (p := p) (x := x)
    rw [n1, n2, n3, e7, e8, e9, rf_upd_eq, rf_upd_eq, rf_upd_eq]
    exact ⟨rfl, rfl, rfl⟩
  · rw [rf_put_fld hF (by omega) (by omega), rf_put_fld hF (by omega) (by omega), rf_put_fld hF (by omega) (by omega), e7, e8, e9, rf_upd_ne e, rf_upd_ne e, rf_upd_ne e]
    exact af f (by omega)
/-- a shot is logged -/
theorem cl_Sc_logs {h h' : am_H} {b : Nat} {w : rf_W} {y x m : Int32} {g : Bool} (hI : rf_I w) (hB : rf_n (w 7) 2147483647) (S : cl_Sc h b w) (e0 : h' b = upd (h b) 2 (nI (rf_nat (w 7) + 1))) (e1 : ∀ i, 1 ≤ i → i ≤ 9 → h' (b + i) = h (b + i))
    (e10 : h' (b + 10) = upd (h (b + 10)) (rf_nat (w 7) % 60) (w 5)) (e11 : h' (b + 11) = upd (h (b + 11)) (rf_nat (w 7) % 60) y) (e12 : h' (b + 12) = upd (h (b + 12)) (rf_nat (w 7) % 60) x) (e13 : h' (b + 13) = upd (h (b + 13)) (rf_nat (w 7) % 60) m) (e14 : h' (b + 14) = upd (h (b + 14)) (rf_nat (w 7) % 60) (am_b g)) : cl_Sc h' b (rf_logs w y x m g) ∧ rf_Es w (rf_logs w y x m g) := by
  have hM : rf_M w < 17 := hI.1.1.2
  have hS : rf_S w < 11 := hI.1.2.1.2
  have hF : rf_F w < 41 := hI.2.2.2.2.1.2.2.1.2
  have h9 := hI.2.2.2.2.1.2.2.2
  have hG : rf_G w < 61 := h9.2
  have hl : rf_nat (w 7) < 2147483647 := hB.2
  have ho := fun a ha h9 h7 => rf_logs_out (w := w) (b := y) (x := x) (m := m) (g := g) (a := a) ha h9 h7
  have E : rf_Es w (rf_logs w y x m g) := ⟨fun a ha => ho a (by omega) (by omega) (by omega), fun t k ht hk => ho _ (by omega) (by omega) (by omega)⟩
  have e7 : rf_logs w y x m g 7 = nI (rf_nat (w 7) + 1) := by
    rw [rf_logs, rf_upd_ne (by omega), rf_upd_ne (by omega), rf_upd_ne (by omega), rf_upd_ne (by omega), rf_upd_ne (by omega), rf_upd_ne (by omega), rf_sr_out (by omega), rf_upd_eq]
    rw [hB.1, nI_add, rf_nat_nI (by omega)]
  have eGl := rf_logs_G (w := w) (b := y) (x := x) (m := m) (g := g) h9
  have hold := fun a k (ha : a + 1 < 60) (hk : k < 5) => rf_logs_old (w := w) (b := y) (x := x) (m := m) (g := g) ha hk
  have hnew := rf_logs_new (w := w) (b := y) (x := x) (m := m) (g := g)
  generalize rf_logs w y x m g = w' at ho E e7 eGl hold hnew ⊢
  have n7 : rf_nat (w' 7) = rf_nat (w 7) + 1 := by rw [e7, rf_nat_nI (by omega)]
  have eF : rf_F w' = rf_F w := by rw [rf_F, rf_F, ho 6 (by omega) (by omega) (by omega)]
  obtain ⟨⟨a0, a1, a2, a3, a4⟩, as, af, aG, al⟩ := S
  refine ⟨⟨⟨by rw [e0, rf_upd_ne (by omega), ho 5 (by omega) (by omega) (by omega)]; exact a0, by rw [e0, rf_upd_ne (by omega), ho 10 (by omega) (by omega) (by omega)]; exact a1, by rw [e0, rf_upd_eq, e7], by rw [e0, rf_upd_ne (by omega), ho 8 (by omega) (by omega) (by omega)]; exact a3, by rw [e0, rf_upd_ne (by omega), ho 6 (by omega) (by omega) (by omega)]; exact a4⟩, fun t ht => ?_, fun f hf => ?_, by rw [eGl, n7, aG]; omega, fun a ha => ?_⟩, E⟩
  · rw [E.S] at ht
    exact cl_sol_congr (hI.2.1 t ht) hM E (fun k hk' => ho _ (by omega) (by omega) (by omega)) (by rw [e1 1 (by omega) (by omega)]) (by rw [e1 2 (by omega) (by omega)]) (by rw [e1 3 (by omega) (by omega)]) (by rw [e1 4 (by omega) (by omega)]) (by rw [e1 5 (by omega) (by omega)]) (fun k hk' => by rw [e1 6 (by omega) (by omega)]) (as t ht)
  · rw [eF] at hf
    obtain ⟨c1, c2, c3⟩ := af f hf
    exact ⟨by rw [e1 7 (by omega) (by omega), rf_fld, ho _ (by omega) (by omega) (by omega)]; exact c1, by rw [e1 8 (by omega) (by omega), rf_fld, ho _ (by omega) (by omega) (by omega)]; exact c2, by rw [e1 9 (by omega) (by omega), rf_fld, ho _ (by omega) (by omega) (by omega)]; exact c3⟩
  · rw [eGl] at ha
    have er : cl_row w' a = (rf_nat (w 7) - a) % 60 := by rw [cl_row, n7, Nat.add_sub_cancel]
    rw [er, e10, e11, e12, e13, e14]
    cases a with
    | zero =>
      rw [Nat.sub_zero, rf_upd_eq, rf_upd_eq, rf_upd_eq, rf_upd_eq, rf_upd_eq, hnew.1, hnew.2.1, hnew.2.2.1, hnew.2.2.2.1, hnew.2.2.2.2]
      exact ⟨rfl, rfl, rfl, rfl, rfl⟩
    | succ a =>
      have hlt : a < rf_G w := by omega
      have hle : a + 1 ≤ rf_nat (w 7) := by omega
      have hne : (rf_nat (w 7) - (a + 1)) % 60 ≠ rf_nat (w 7) % 60 := by omega
      have er2 : cl_row w a = (rf_nat (w 7) - (a + 1)) % 60 := by rw [cl_row]; congr 1; omega
      rw [rf_upd_ne hne, rf_upd_ne hne, rf_upd_ne hne, rf_upd_ne hne, rf_upd_ne hne, hold a 0 (by omega) (by omega), hold a 1 (by omega) (by omega), hold a 2 (by omega) (by omega), hold a 3 (by omega) (by omega), hold a 4 (by omega) (by omega), ← er2]
      exact al a hlt
/-- one goes on to another step of the way -/
theorem cl_Sc_at {h h' : am_H} {b s v : Nat} {w : rf_W} (hI : rf_I w) (hs : s < rf_S w) (hv : v < rf_ofn w s 2) (S : cl_Sc h b w) (e0 : h' b = h b) (e1 : h' (b + 1) = upd (h (b + 1)) s (nI v)) (e2 : h' (b + 2) = upd (h (b + 2)) s (rf_of w s (3 + v))) (e3 : ∀ i, 3 ≤ i → i ≤ 14 → h' (b + i) = h (b + i)) : cl_Sc h' b (upd w (61 + 23 * s + 1) (nI v)) ∧ rf_Es w (upd w (61 + 23 * s + 1) (nI v)) := by
  have hM : rf_M w < 17 := hI.1.1.2
  have hS : rf_S w < 11 := hI.1.2.1.2
  have ho : ∀ a, a ≠ 61 + 23 * s + 1 → upd w (61 + 23 * s + 1) (nI v) a = w a := fun a h => rf_upd_ne h
  have hw : rf_of (upd w (61 + 23 * s + 1) (nI v)) s 1 = nI v := rf_upd_eq
  generalize upd w (61 + 23 * s + 1) (nI v) = w' at ho hw ⊢
  have E : rf_Es w w' := ⟨fun q hq => ho q (by omega), fun t j ht hj => ho _ (by omega)⟩
  have eF : rf_F w' = rf_F w := by rw [rf_F, rf_F, ho 6 (by omega)]
  have eG : rf_G w' = rf_G w := by rw [rf_G, rf_G, ho 9 (by omega)]
  obtain ⟨⟨a0, a1, a2, a3, a4⟩, as, af, aG, al⟩ := S
  have hG : rf_G w < 61 := hI.2.2.2.2.1.2.2.2.2
  have hF : rf_F w < 41 := hI.2.2.2.2.1.2.2.1.2
  refine ⟨⟨⟨by rw [e0, ho 5 (by omega)]; exact a0, by rw [e0, ho 10 (by omega)]; exact a1, by rw [e0, ho 7 (by omega)]; exact a2, by rw [e0, ho 8 (by omega)]; exact a3, by rw [e0, ho 6 (by omega)]; exact a4⟩, fun t ht => ?_, fun f hf => ?_, by rw [eG, ho 7 (by omega)]; exact aG, fun q hq => ?_⟩, E⟩
  · rw [E.S] at ht
    by_cases e : t = s
    · subst e
      obtain ⟨c1, c2, c3, c4, c5, c6⟩ := as t ht
      have hIs := hI.2.1 t ht
      have hk13 : rf_kn w t < 13 := hIs.2.2.2.2.1.2
      have h7 : rf_ofn w t 2 < 7 := hIs.2.1.2
      have os : ∀ k, k ≠ 1 → rf_of w' t k = rf_of w t k := fun k hk => ho _ (by omega)
      have ekn : rf_known w' t = rf_known w t := rf_known_congr (fun k h1 _ => os k (by omega))
      have ek : rf_kn w' t = rf_kn w t := by rw [rf_kn, rf_kn, rf_ofn, rf_ofn, os 9 (by omega)]
      refine ⟨by rw [e1, rf_upd_eq, hw], ?_, by rw [e3 3 (by omega) (by omega), os 9 (by omega)]; exact c3, by rw [e3 4 (by omega) (by omega), ekn]; exact c4, by rw [e3 5 (by omega) (by omega), rf_use, ekn, E.usable hM]; exact c5, fun k hk' => ?_⟩
      · rw [e2, rf_upd_eq, rf_pl, rf_ofn, hw, rf_nat_nI (by omega), os _ (by omega)]
      · rw [ek] at hk'
        rw [e3 6 (by omega) (by omega), os _ (by omega)]; exact c6 k hk'
    · exact cl_sol_congr (hI.2.1 t ht) hM E (fun k hk' => ho _ (by omega)) (by rw [e1, rf_upd_ne e]) (by rw [e2, rf_upd_ne e]) (by rw [e3 3 (by omega) (by omega)]) (by rw [e3 4 (by omega) (by omega)]) (by rw [e3 5 (by omega) (by omega)]) (fun k hk' => by rw [e3 6 (by omega) (by omega)]) (as t ht)
  · rw [eF] at hf
    obtain ⟨c1, c2, c3⟩ := af f hf
    exact ⟨by rw [e3 7 (by omega) (by omega), rf_fld, ho _ (by omega)]; exact c1, by rw [e3 8 (by omega) (by omega), rf_fld, ho _ (by omega)]; exact c2, by rw [e3 9 (by omega) (by omega), rf_fld, ho _ (by omega)]; exact c3⟩
  · rw [eG] at hq
    obtain ⟨c1, c2, c3, c4, c5⟩ := al q hq
    have er : cl_row w' q = cl_row w q := by rw [cl_row, cl_row, ho 7 (by omega)]
    rw [er]
    exact ⟨by rw [e3 10 (by omega) (by omega), rf_log, ho _ (by omega)]; exact c1, by rw [e3 11 (by omega) (by omega), rf_log, ho _ (by omega)]; exact c2, by rw [e3 12 (by omega) (by omega), rf_log, ho _ (by omega)]; exact c3, by rw [e3 13 (by omega) (by omega), rf_log, ho _ (by omega)]; exact c4, by rw [e3 14 (by omega) (by omega), rf_log, ho _ (by omega)]; exact c5⟩
end SPEC20
