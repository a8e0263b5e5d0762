/-! THE CLASS: a memory and a soldier enter the draft -/
section DRAFT2
theorem cl_ab_bt {f : Nat → Int32} {x : Int32} {k : Nat} : ∀ M, am_bt (cl_ab f x M) k = true ↔ am_bt x k = true ∨ ∃ i, i < M ∧ am_bt x i = true ∧ am_bt (f i) k = true
  | 0 => ⟨fun h => Or.inl h, fun h => by rcases h with h | ⟨i, hi, _⟩; exact h; omega⟩
  | M + 1 => by
    rw [cl_ab]
    by_cases hx : am_bt x M = true
    · rw [if_pos hx, am_bt_or, Bool.or_eq_true, cl_ab_bt M]
      constructor
      · intro h
        rcases h with (h | ⟨i, hi, a, b⟩) | h
        · exact Or.inl h
        · exact Or.inr ⟨i, by omega, a, b⟩
        · exact Or.inr ⟨M, by omega, hx, h⟩
      · intro h
        rcases h with h | ⟨i, hi, a, b⟩
        · exact Or.inl (Or.inl h)
        · by_cases e : i = M
          · subst e; exact Or.inr b
          · exact Or.inl (Or.inr ⟨i, by omega, a, b⟩)
    · rw [if_neg hx, cl_ab_bt M]
      constructor
      · intro h
        rcases h with h | ⟨i, hi, a, b⟩
        · exact Or.inl h
        · exact Or.inr ⟨i, by omega, a, b⟩
      · intro h
        rcases h with h | ⟨i, hi, a, b⟩
        · exact Or.inl h
        · by_cases e : i = M
          · subst e; exact absurd a hx
          · exact Or.inr ⟨i, by omega, a, b⟩
theorem cl_ar_at {f : Nat → Int32} {all : Int32} {M m : Nat} : ∀ i, cl_ar f all M i m = if m < i ∧ am_bt all m = true then f m ||| (nI 1 <<< (nI M &&& 31)) else f m
  | 0 => by rw [if_neg (fun z => absurd z.1 (by omega))]; rfl
  | i + 1 => by
    rw [cl_ar]
    by_cases hx : am_bt all i = true
    · rw [if_pos hx]
      by_cases e : m = i
      · subst e
        rw [rf_upd_eq, cl_ar_at m, if_neg (fun z => absurd z.1 (by omega)), if_pos ⟨by omega, hx⟩]
      · rw [rf_upd_ne e, cl_ar_at i]
        by_cases hb : am_bt all m = true
        · by_cases hm : m < i
          · rw [if_pos ⟨hm, hb⟩, if_pos ⟨by omega, hb⟩]
          · rw [if_neg (fun z => hm z.1), if_neg (fun z => absurd z.1 (by omega))]
        · rw [if_neg (fun z => hb z.2), if_neg (fun z => hb z.2)]
    · rw [if_neg hx, cl_ar_at i]
      by_cases hb : am_bt all m = true
      · have e : m ≠ i := fun z => hx (by rw [← z]; exact hb)
        by_cases hm : m < i
        · rw [if_pos ⟨hm, hb⟩, if_pos ⟨by omega, hb⟩]
        · rw [if_neg (fun z => hm z.1), if_neg (fun z => absurd z.1 (by omega))]
      · rw [if_neg (fun z => hb z.2), if_neg (fun z => hb z.2)]
theorem cl_addM {h h' : am_H} {b v : Nat} {w : rf_W} {x : Int32} (hI : rf_I w) (h16 : rf_M w < 16) (hv : v < 100) (hx : am_lo x (rf_M w)) (L : cl_Lo h b w) (S : cl_Sc h (b + 21) w)
    (e0 : h' b = upd (h b) 1 (nI (rf_M w + 1))) (e1 : h' (b + 1) = upd (h (b + 1)) (rf_M w) (nI v)) (e2 : h' (b + 2) = upd (h (b + 2)) (rf_M w) x) (e3 : h' (b + 3) = upd (h (b + 3)) (rf_M w) (cl_ab (h (b + 3)) x (rf_M w)))
    (e4 : h' (b + 4) = upd (cl_ar (h (b + 4)) (cl_ab (h (b + 3)) x (rf_M w)) (rf_M w) (rf_M w)) (rf_M w) (nI 0)) (e5 : h' (b + 5) = upd (h (b + 5)) (rf_M w) (nI 0)) (e : ∀ i, b + 6 ≤ i → i ≤ b + 35 → h' i = h i) : cl_Lo h' b (rf_addM w (nI v) x) ∧ cl_Sc h' (b + 21) (rf_addM w (nI v) x) := by
  have hM : rf_M w < 17 := hI.1.1.2
  have hS : rf_S w < 11 := hI.1.2.1.2
  have hO : rf_O w < 11 := hI.1.2.2.2
  obtain ⟨hI', hE⟩ := rf_I_addM hI h16 hv hx
  have eM : rf_M (rf_addM w (nI v) x) = rf_M w + 1 := by rw [rf_M, rf_addM, rf_upd_eq, rf_nat_nI (by omega)]
  have w0 : rf_addM w (nI v) x 0 = nI (rf_M w + 1) := by rw [rf_addM, rf_upd_eq]
  have hw : ∀ a, a ≠ 0 → a ≠ 13 + 3 * rf_M w → a ≠ 13 + 3 * rf_M w + 1 → a ≠ 13 + 3 * rf_M w + 2 → rf_addM w (nI v) x a = w a := fun a h1 h2 h3 h4 => by rw [rf_addM, rf_upd_ne h1, rf_upd_ne h4, rf_upd_ne h3, rf_upd_ne h2]
  have m0 : rf_mem (rf_addM w (nI v) x) (rf_M w) 0 = nI v := by rw [rf_mem, rf_addM, rf_upd_ne (by omega), rf_upd_ne (by omega), rf_upd_ne (by omega), Nat.add_zero, rf_upd_eq]
  have m1 : rf_mem (rf_addM w (nI v) x) (rf_M w) 1 = x := by rw [rf_mem, rf_addM, rf_upd_ne (by omega), rf_upd_ne (by omega), rf_upd_eq]
  have m2 : rf_mem (rf_addM w (nI v) x) (rf_M w) 2 = nI 0 := by rw [rf_mem, rf_addM, rf_upd_ne (by omega), rf_upd_eq]
  generalize rf_addM w (nI v) x = w' at hI' hE eM w0 hw m0 m1 m2 ⊢
  have mo : ∀ o, o < rf_M w → ∀ k, k < 3 → rf_mem w' o k = rf_mem w o k := fun o ho k hk => hw _ (by omega) (by omega) (by omega) (by omega)
  have eS : rf_S w' = rf_S w := by rw [rf_S, rf_S, hw 1 (by omega) (by omega) (by omega) (by omega)]
  have eO : rf_O w' = rf_O w := by rw [rf_O, rf_O, hw 2 (by omega) (by omega) (by omega) (by omega)]
  have eo : ∀ s k, rf_of w' s k = rf_of w s k := fun s k => hw _ (by omega) (by omega) (by omega) (by omega)
  have be : ∀ m, m < rf_M w → rf_bears w' m = rf_bears w m := fun m hm => by
    rw [rf_bears, rf_bears, mo m hm 1 (by omega)]
    exact rf_bdn_congr m (fun o ho => mo o (by omega) 1 (by omega)) _
  obtain ⟨⟨a0, a1, a2, a3⟩, am, as, ao, ap⟩ := L
  have fb : ∀ i, i < rf_M w → h (b + 3) i = rf_bears w i := fun i hi => (am i hi).2.2.1
  have hab : cl_ab (h (b + 3)) x (rf_M w) = rf_bears w' (rf_M w) := by
    refine am_ext (fun k hk => ?_)
    rw [Bool.eq_iff_iff]
    have up : ∀ k, k < 32 → am_bt (cl_ab (h (b + 3)) x (rf_M w)) k = true → am_bt (rf_bears w' (rf_M w)) k = true := fun k hk hq => by
      have hn := rf_bears_needs hI' (show rf_M w < rf_M w' by omega)
      rw [m1] at hn
      rcases (cl_ab_bt _).mp hq with q | ⟨i, hi, q1, q2⟩
      · exact hn k hk q
      · rw [fb i hi, ← be i hi] at q2
        exact rf_bears_tr hI' (show rf_M w < rf_M w' by omega) (hn i (by omega) q1) k hk q2
    refine ⟨up k hk, fun hq => ?_⟩
    refine rf_bears_min hI' (y := cl_ab (h (b + 3)) x (rf_M w)) (show rf_M w < rf_M w' by omega) (by rw [m1]; exact fun k _ q => (cl_ab_bt _).mpr (Or.inl q)) (fun o ho q => ?_) k hk hq
    rw [mo o ho 1 (by omega)]
    intro k hk q3
    rcases (cl_ab_bt _).mp q with q | ⟨i, hi, q1, q2⟩
    · exact (cl_ab_bt _).mpr (Or.inr ⟨o, ho, q, by rw [fb o ho]; exact rf_bears_needs hI ho k hk q3⟩)
    · rw [fb i hi] at q2
      exact (cl_ab_bt _).mpr (Or.inr ⟨i, hi, q1, by rw [fb i hi]; exact rf_bears_cl hI hi q2 k hk q3⟩)
  have hre : ∀ m, m < rf_M w + 1 → h' (b + 4) m = rf_rests w' m := fun m hm => by
    rw [e4, hab]
    by_cases em : m = rf_M w
    · subst em
      rw [rf_upd_eq]
      refine am_ext (fun o ho => ?_)
      rw [rf_rests_bt hI' ho, eM, show nI 0 = (0 : Int32) from rfl, am_bt_0]
      by_cases q : o < rf_M w + 1
      · rw [decide_eq_false (show ¬ rf_M w < o by omega), Bool.false_and, Bool.and_false]
      · rw [decide_eq_false q, Bool.false_and]
    · rw [rf_upd_ne em, cl_ar_at, (am m (by omega)).2.2.2.1]
      refine am_ext (fun o ho => ?_)
      rw [rf_rests_bt hI' ho, eM]
      by_cases hb : am_bt (rf_bears w' (rf_M w)) m = true
      · rw [if_pos ⟨by omega, hb⟩, am_bt_or, am_bt_1 (by omega) ho, rf_rests_bt hI ho]
        by_cases q : o < rf_M w
        · rw [decide_eq_true q, decide_eq_false (show ¬ o = rf_M w by omega), decide_eq_true (show o < rf_M w + 1 by omega), be o q, Bool.or_false]
        · rw [decide_eq_false q, Bool.false_and, Bool.false_or]
          by_cases q2 : o = rf_M w
          · rw [q2, hb, decide_eq_true rfl, decide_eq_true (show rf_M w < rf_M w + 1 by omega), decide_eq_true (show m < rf_M w by omega)]; rfl
          · rw [decide_eq_false q2, decide_eq_false (show ¬ o < rf_M w + 1 by omega), Bool.false_and]
      · rw [if_neg (fun z => hb z.2), rf_rests_bt hI ho]
        by_cases q : o < rf_M w
        · rw [decide_eq_true q, decide_eq_true (show o < rf_M w + 1 by omega), be o q]
        · rw [decide_eq_false q, Bool.false_and]
          by_cases q2 : o = rf_M w
          · rw [q2, (Bool.not_eq_true _).mp hb, Bool.and_false, Bool.and_false]
          · rw [decide_eq_false (show ¬ o < rf_M w + 1 by omega), Bool.false_and]
  have hus : ∀ s, s < rf_S w → rf_usable w' (rf_known w s) = rf_usable w (rf_known w s) := fun s hs => by
    have hk := rf_known_lo (hI.2.1 s hs) hM (rf_M w) (Nat.le_refl _)
    rw [rf_usable, rf_usable, eM, rf_usa, if_neg (fun z => Bool.false_ne_true (hk.symm.trans z.1)), rf_usa_congr _ (fun o ho => mo o ho 1 (by omega)), show nI 0 = (0 : Int32) from rfl]
    exact Int32.or_zero
  refine ⟨⟨⟨?_, ?_, ?_, ?_⟩, fun m hm => ?_, fun s hs => ?_, fun o ho => ?_, ?_, ?_⟩, cl_Sc_lore hI hE (fun i h1 h3 => e i (by omega) (by omega)) eS (fun s _ k _ => eo s k) hus S⟩
  · rw [e0, rf_upd_ne (by omega), hw 3 (by omega) (by omega) (by omega) (by omega)]; exact a0
  · rw [e0, rf_upd_eq, w0]
  · rw [e0, rf_upd_ne (by omega), hw 1 (by omega) (by omega) (by omega) (by omega)]; exact a2
  · rw [e0, rf_upd_ne (by omega), hw 2 (by omega) (by omega) (by omega) (by omega)]; exact a3
  · rw [eM] at hm
    refine ⟨?_, ?_, ?_, hre m hm, ?_⟩
    · rw [e1]
      by_cases em : m = rf_M w
      · rw [em, rf_upd_eq, m0]
      · rw [rf_upd_ne em, mo m (by omega) 0 (by omega)]; exact (am m (by omega)).1
    · rw [e2]
      by_cases em : m = rf_M w
      · rw [em, rf_upd_eq, m1]
      · rw [rf_upd_ne em, mo m (by omega) 1 (by omega)]; exact (am m (by omega)).2.1
    · rw [e3, hab]
      by_cases em : m = rf_M w
      · rw [em, rf_upd_eq]
      · rw [rf_upd_ne em, be m (by omega)]; exact fb m (by omega)
    · rw [e5]
      by_cases em : m = rf_M w
      · rw [em, rf_upd_eq, m2]
      · rw [rf_upd_ne em, mo m (by omega) 2 (by omega)]; exact (am m (by omega)).2.2.2.2
  · rw [eS] at hs
    exact cl_lS_c (hI.2.1 s hs).2.1.2 (fun k _ => eo s k) (by rw [e _ (by omega) (by omega)]) (by rw [e _ (by omega) (by omega)]) (by rw [e _ (by omega) (by omega)]) (fun k _ => by rw [e _ (by omega) (by omega)]) (as s hs)
  · rw [eO] at ho
    obtain ⟨c1, c2⟩ := ao o ho
    exact ⟨by rw [e _ (by omega) (by omega), rf_ord, hw _ (by omega) (by omega) (by omega) (by omega)]; exact c1, by rw [e _ (by omega) (by omega), rf_ord, hw _ (by omega) (by omega) (by omega) (by omega)]; exact c2⟩
  · rw [e _ (by omega) (by omega), hw 11 (by omega) (by omega) (by omega) (by omega)]; exact ap.1
  · rw [e _ (by omega) (by omega), hw 12 (by omega) (by omega) (by omega) (by omega)]; exact ap.2
theorem rf_usa_none {w : rf_W} : ∀ n, rf_usa w 0 n = 0
  | 0 => rfl
  | n + 1 => by
    rw [rf_usa, rf_usa_none n, if_neg (fun z => by rw [am_bt_0] at z; exact Bool.false_ne_true z.1)]
    rfl
theorem cl_entered {h h' : am_H} {b : Nat} {w w' : rf_W} (hI : rf_I w) (h10 : rf_S w < 10) (hIn : rf_In w (rf_S w) w') (L : cl_Lo h b w) (S : cl_Sc h (b + 21) w)
    (e0 : h' b = upd (h b) 2 (nI (rf_S w + 1))) (r6 : h' (b + 6) (rf_S w) = rf_of w' (rf_S w) 0) (q6 : ∀ s, s < rf_S w → h' (b + 6) s = h (b + 6) s) (r7 : h' (b + 7) (rf_S w) = nI 0) (q7 : ∀ s, s < rf_S w → h' (b + 7) s = h (b + 7) s)
    (r8 : h' (b + 8) (rf_S w) = rf_of w' (rf_S w) 2) (q8 : ∀ s, s < rf_S w → h' (b + 8) s = h (b + 8) s) (r9 : ∀ k, k < rf_ofn w' (rf_S w) 2 → h' (b + 9) (rf_S w * 6 + k) = rf_of w' (rf_S w) (3 + k)) (q9 : ∀ j, j < rf_S w * 6 → h' (b + 9) j = h (b + 9) j)
    (r1 : h' (b + 22) (rf_S w) = nI 0) (q1 : ∀ s, s < rf_S w → h' (b + 22) s = h (b + 22) s) (r2 : h' (b + 23) (rf_S w) = rf_of w' (rf_S w) 3) (q2 : ∀ s, s < rf_S w → h' (b + 23) s = h (b + 23) s) (r3 : h' (b + 24) (rf_S w) = nI 0) (q3 : ∀ s, s < rf_S w → h' (b + 24) s = h (b + 24) s)
    (r4 : h' (b + 25) (rf_S w) = nI 0) (q4 : ∀ s, s < rf_S w → h' (b + 25) s = h (b + 25) s) (r5 : h' (b + 26) (rf_S w) = nI 0) (q5 : ∀ s, s < rf_S w → h' (b + 26) s = h (b + 26) s)
    (e : ∀ i, b < i → i ≤ b + 35 → (i < b + 6 ∨ b + 10 ≤ i) → (i < b + 22 ∨ b + 27 ≤ i) → h' i = h i) : cl_Lo h' b w' ∧ cl_Sc h' (b + 21) w' := by
  have hM : rf_M w < 17 := hI.1.1.2
  have hO : rf_O w < 11 := hI.1.2.2.2
  have hE := (rf_I_in hI h10 hIn).2
  obtain ⟨hw, w1, -, ⟨n, n0, n7, h2, -⟩, hz⟩ := hIn
  have m1 : ∀ o, o < 16 → rf_mem w' o 1 = rf_mem w o 1 := fun o _ => hw _ (by omega) (by omega)
  have eM : rf_M w' = rf_M w := by rw [rf_M, rf_M, hw 0 (by omega) (by omega)]
  have eO : rf_O w' = rf_O w := by rw [rf_O, rf_O, hw 2 (by omega) (by omega)]
  have eS : rf_S w' = rf_S w + 1 := by rw [rf_S, w1, rf_nat_nI (by omega)]
  have eo : ∀ s, s < rf_S w → ∀ k, k < 23 → rf_of w' s k = rf_of w s k := fun s hs k hk => hw _ (by omega) (by omega)
  have k0 : rf_kn w' (rf_S w) = 0 := by rw [rf_kn, rf_ofn, hz 9 (by omega), rf_nat_nI (by omega)]
  have kn : rf_known w' (rf_S w) = 0 := by rw [rf_known, rf_first, k0]; rfl
  obtain ⟨⟨a0, a1, a2, a3⟩, am, as, ao, ap⟩ := L
  refine ⟨⟨⟨?_, ?_, ?_, ?_⟩, fun m hm => ?_, fun s hs => ?_, fun o ho => ?_, ?_, ?_⟩, cl_Sc_mk hI hE (e _ (by omega) (by omega) (by omega) (by omega)) (fun i h1 h3 => e _ (by omega) (by omega) (by omega) (by omega)) S (fun s hs => ?_)⟩
  · rw [e0, rf_upd_ne (by omega), hw 3 (by omega) (by omega)]; exact a0
  · rw [e0, rf_upd_ne (by omega), hw 0 (by omega) (by omega)]; exact a1
  · rw [e0, rf_upd_eq, w1]
  · rw [e0, rf_upd_ne (by omega), hw 2 (by omega) (by omega)]; exact a3
  · rw [eM] at hm
    obtain ⟨c1, c2, c3, c4, c5⟩ := am m hm
    exact ⟨by rw [e _ (by omega) (by omega) (by omega) (by omega), rf_mem, hw _ (by omega) (by omega)]; exact c1, by rw [e _ (by omega) (by omega) (by omega) (by omega), m1 m (by omega)]; exact c2, by rw [e _ (by omega) (by omega) (by omega) (by omega), rf_bears_c m1 (by omega)]; exact c3, by rw [e _ (by omega) (by omega) (by omega) (by omega), rf_rests_c m1 eM hM]; exact c4, by rw [e _ (by omega) (by omega) (by omega) (by omega), rf_mem, hw _ (by omega) (by omega)]; exact c5⟩
  · rw [eS] at hs
    by_cases es : s = rf_S w
    · subst es
      exact ⟨r6, by rw [r7, hz 22 (by omega)], r8, r9⟩
    · have hs2 : s < rf_S w := by omega
      exact cl_lS_c (hI.2.1 s hs2).2.1.2 (eo s hs2) (q6 s hs2) (q7 s hs2) (q8 s hs2) (fun k _ => q9 _ (by omega)) (as s hs2)
  · rw [eO] at ho
    obtain ⟨c1, c2⟩ := ao o ho
    exact ⟨by rw [e _ (by omega) (by omega) (by omega) (by omega), rf_ord, hw _ (by omega) (by omega)]; exact c1, by rw [e _ (by omega) (by omega) (by omega) (by omega), rf_ord, hw _ (by omega) (by omega)]; exact c2⟩
  · rw [e _ (by omega) (by omega) (by omega) (by omega), hw 11 (by omega) (by omega)]; exact ap.1
  · rw [e _ (by omega) (by omega) (by omega) (by omega), hw 12 (by omega) (by omega)]; exact ap.2
  · rw [eS] at hs
    by_cases es : s = rf_S w
    · subst es
      refine ⟨by rw [show b + 21 + 1 = b + 22 from rfl, r1, hz 1 (by omega)], ?_, by rw [show b + 21 + 3 = b + 24 from rfl, r3, hz 9 (by omega)], by rw [show b + 21 + 4 = b + 25 from rfl, r4, kn]; rfl, ?_, fun k hk => by rw [k0] at hk; exact absurd hk (by omega)⟩
      · rw [show b + 21 + 2 = b + 23 from rfl, r2, rf_pl, rf_ofn, hz 1 (by omega), rf_nat_nI (by omega)]
      · rw [show b + 21 + 5 = b + 26 from rfl, r5, rf_use, kn, rf_usable, rf_usa_none]; rfl
    · have hs2 : s < rf_S w := by omega
      exact cl_sS_c (hI.2.1 s hs2) (fun k hk => eo s hs2 k (by omega)) (rf_usable_c m1 eM hM) (q1 s hs2) (q2 s hs2) (q3 s hs2) (q4 s hs2) (q5 s hs2) (fun k _ => by rw [e _ (by omega) (by omega) (by omega) (by omega)]) (S.2.1 s hs2)
end DRAFT2
