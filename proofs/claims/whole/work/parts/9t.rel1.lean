/-! THE LOOP: worlds that agree where the class looks -/
section REL1
/-- the same but the law and the drafts -/
def rf_eL (w w' : rf_W) : Prop := ∀ a, a < 731 → a ≠ 4 → w' a = w a
/-- the same but the drafts -/
def rf_eD (w w' : rf_W) : Prop := ∀ a, a < 1580 → w' a = w a
theorem rf_eD.L {w w' : rf_W} (h : rf_eD w w') : rf_eL w w' := fun a h1 _ => h a (by omega)
theorem rf_eL.M {w w' : rf_W} (h : rf_eL w w') : rf_M w' = rf_M w := by rw [rf_M, rf_M, h 0 (by omega) (by omega)]
theorem rf_eL.S {w w' : rf_W} (h : rf_eL w w') : rf_S w' = rf_S w := by rw [rf_S, rf_S, h 1 (by omega) (by omega)]
theorem rf_eL.O {w w' : rf_W} (h : rf_eL w w') : rf_O w' = rf_O w := by rw [rf_O, rf_O, h 2 (by omega) (by omega)]
theorem rf_eL.F {w w' : rf_W} (h : rf_eL w w') : rf_F w' = rf_F w := by rw [rf_F, rf_F, h 6 (by omega) (by omega)]
theorem rf_eL.G {w w' : rf_W} (h : rf_eL w w') : rf_G w' = rf_G w := by rw [rf_G, rf_G, h 9 (by omega) (by omega)]
theorem rf_eL.m {w w' : rf_W} (h : rf_eL w w') {m k : Nat} (hm : m < 16) (hk : k < 3) : rf_mem w' m k = rf_mem w m k := h _ (by omega) (by omega)
theorem rf_eL.of {w w' : rf_W} (h : rf_eL w w') {s k : Nat} (hs : s < 10) (hk : k < 23) : rf_of w' s k = rf_of w s k := h _ (by omega) (by omega)
theorem cl_Lo_L {h : am_H} {b : Nat} {w w' : rf_W} (hI : rf_I w) (E : rf_eL w w') (L : cl_Lo h b w) : cl_Lo h b w' := by
  have hM : rf_M w < 17 := hI.1.1.2
  have hS : rf_S w < 11 := hI.1.2.1.2
  have hO : rf_O w < 11 := hI.1.2.2.2
  have m1 : ∀ o, o < 16 → rf_mem w' o 1 = rf_mem w o 1 := fun o ho => E.m ho (by omega)
  obtain ⟨⟨a0, a1, a2, a3⟩, am, as, ao, ap⟩ := L
  refine ⟨⟨by rw [E 3 (by omega) (by omega)]; exact a0, by rw [E 0 (by omega) (by omega)]; exact a1, by rw [E 1 (by omega) (by omega)]; exact a2, by rw [E 2 (by omega) (by omega)]; exact a3⟩, fun m hm => ?_, fun s hs => ?_, fun o ho => ?_, by rw [E 11 (by omega) (by omega)]; exact ap.1, by rw [E 12 (by omega) (by omega)]; exact ap.2⟩
  · rw [E.M] at hm
    obtain ⟨c1, c2, c3, c4, c5⟩ := am m hm
    exact ⟨by rw [E.m (by omega) (by omega)]; exact c1, by rw [E.m (by omega) (by omega)]; exact c2, by rw [rf_bears_c m1 (by omega)]; exact c3, by rw [rf_rests_c m1 E.M hM]; exact c4, by rw [E.m (by omega) (by omega)]; exact c5⟩
  · rw [E.S] at hs
    exact cl_lS_c (hI.2.1 s hs).2.1.2 (fun k hk => E.of (by omega) hk) rfl rfl rfl (fun _ _ => rfl) (as s hs)
  · rw [E.O] at ho
    obtain ⟨c1, c2⟩ := ao o ho
    exact ⟨by rw [rf_ord, E _ (by omega) (by omega)]; exact c1, by rw [rf_ord, E _ (by omega) (by omega)]; exact c2⟩
theorem cl_Sc_L {h : am_H} {b : Nat} {w w' : rf_W} (hI : rf_I w) (E : rf_eL w w') (S : cl_Sc h b w) : cl_Sc h b w' := by
  have hM : rf_M w < 17 := hI.1.1.2
  have hS : rf_S w < 11 := hI.1.2.1.2
  have hF : rf_F w < 41 := hI.2.2.2.2.1.2.2.1.2
  have hG : rf_G w < 61 := hI.2.2.2.2.1.2.2.2.2
  have m1 : ∀ o, o < 16 → rf_mem w' o 1 = rf_mem w o 1 := fun o ho => E.m ho (by omega)
  obtain ⟨⟨a0, a1, a2, a3, a4⟩, as, af, aG, al⟩ := S
  refine ⟨⟨by rw [E 5 (by omega) (by omega)]; exact a0, by rw [E 10 (by omega) (by omega)]; exact a1, by rw [E 7 (by omega) (by omega)]; exact a2, by rw [E 8 (by omega) (by omega)]; exact a3, by rw [E 6 (by omega) (by omega)]; exact a4⟩, fun s hs => ?_, fun q hq => ?_, by rw [E.G, E 7 (by omega) (by omega)]; exact aG, fun a ha => ?_⟩
  · rw [E.S] at hs
    exact cl_sS_c (h := h) (w := w) (hI.2.1 s hs) (fun k hk => E.of (by omega) (by omega)) (rf_usable_c m1 E.M hM) rfl rfl rfl rfl rfl (fun _ _ => rfl) (as s hs)
  · rw [E.F] at hq
    obtain ⟨c1, c2, c3⟩ := af q hq
    exact ⟨by rw [rf_fld, E _ (by omega) (by omega)]; exact c1, by rw [rf_fld, E _ (by omega) (by omega)]; exact c2, by rw [rf_fld, E _ (by omega) (by omega)]; exact c3⟩
  · rw [E.G] at ha
    obtain ⟨c1, c2, c3, c4, c5⟩ := al a ha
    have er : cl_row w' a = cl_row w a := by rw [cl_row, cl_row, E 7 (by omega) (by omega)]
    rw [er]
    exact ⟨by rw [rf_log, E _ (by omega) (by omega)]; exact c1, by rw [rf_log, E _ (by omega) (by omega)]; exact c2, by rw [rf_log, E _ (by omega) (by omega)]; exact c3, by rw [rf_log, E _ (by omega) (by omega)]; exact c4, by rw [rf_log, E _ (by omega) (by omega)]; exact c5⟩
theorem rf_I_D {w w' : rf_W} (hI : rf_I w) (E : rf_eD w w') : rf_I w' := rf_I_lo hI E.L (rf_n_congr (E 4 (by omega)) hI.2.2.2.2.1.2.1)
theorem cl_La_D {h : am_H} {b : Nat} {w w' : rf_W} (hL : rf_Lw w) (E : rf_eD w w') (L : cl_La h b w) : cl_La h b w' := by
  obtain ⟨l1, l2⟩ := L
  have e4 := E 4 (by omega)
  have e731 := E 731 (by omega)
  refine ⟨fun h0 => l1 (by rw [← e4]; exact h0), fun h0 => ?_⟩
  rw [e4] at h0
  obtain ⟨hl1, hl2⟩ := hL h0
  have h13 : rf_nat (w 731) < 13 := hl1.2
  obtain ⟨k1, k2⟩ := l2 h0
  refine ⟨by rw [e731]; exact k1, fun n hn => ?_⟩
  rw [e731] at hn
  have hto := (hl2 n hn).2.2.2.1.2
  obtain ⟨c1, c2, c3, c4, c5⟩ := k2 n hn
  have f2 := E (732 + 4 * n + 2) (by omega)
  have f3 := E (732 + 4 * n + 3) (by omega)
  refine ⟨by rw [E _ (by omega)]; exact c1, by rw [E _ (by omega)]; exact c2, by rw [f2]; exact c3, by rw [f3]; exact c4, fun i h1 h2 => ?_⟩
  rw [f2] at h1
  rw [f3] at h2
  rw [c5 i h1 h2, cl_op, cl_op, rf_sc, rf_sc, E (780 + 2 * i) (by omega), E (780 + 2 * i + 1) (by omega)]
theorem rf_okc_D {w w' : rf_W} (E : rf_eD w w') : ∀ c i t, i + c ≤ 400 → rf_okc w c i t → rf_okc w' c i t
  | 0, _, _, _, _ => trivial
  | c + 1, i, t, hi, h => by
    have e := E (780 + 2 * i) (by omega)
    have es : rf_sc w' i = rf_sc w i := by rw [rf_sc, rf_sc, e]
    obtain ⟨a, b, d, f⟩ := h
    refine ⟨rf_n_congr e a, fun h8 => ?_, fun h8 h12 => ?_, fun h8 h12 => ?_⟩
    · rw [es] at h8; exact ⟨(b h8).1, rf_okc_D E c _ _ (by omega) (b h8).2⟩
    · rw [es] at h8 h12; exact ⟨(d h8 h12).1, rf_okc_D E c _ _ (by omega) (d h8 h12).2⟩
    · rw [es] at h8 h12; exact ⟨(f h8 h12).1, rf_okc_D E c _ _ (by omega) (f h8 h12).2⟩
theorem rf_Lw_D {w w' : rf_W} (hL : rf_Lw w) (E : rf_eD w w') : rf_Lw w' := fun h0 => by
  rw [E 4 (by omega)] at h0
  obtain ⟨a, b⟩ := hL h0
  have h13 : rf_nat (w 731) < 13 := a.2
  refine ⟨rf_n_congr (E 731 (by omega)) a, fun n hn => ?_⟩
  rw [E 731 (by omega)] at hn
  obtain ⟨c1, c2, c3, c4, c5, c6⟩ := b n hn
  have h4 := c4.2
  have f2 := E (732 + 4 * n + 2) (by omega)
  have f3 := E (732 + 4 * n + 3) (by omega)
  exact ⟨rf_n_congr (E _ (by omega)) c1, rf_n_congr (E _ (by omega)) c2, rf_n_congr f2 c3, rf_n_congr f3 c4, by rw [f2, f3]; exact c5, by rw [f2, f3]; exact rf_okc_D E _ _ _ (by omega) c6⟩
theorem rf_Lk_D {w w' : rf_W} (hL : rf_Lw w) (hK : rf_Lk w) (E : rf_eD w w') : rf_Lk w' := fun h0 n hn => by
  rw [E 4 (by omega)] at h0
  obtain ⟨a, b⟩ := hL h0
  have h13 : rf_nat (w 731) < 13 := a.2
  rw [E 731 (by omega)] at hn
  obtain ⟨c1, c2, c3, c4, c5, c6⟩ := b n hn
  have h4 := c4.2
  obtain ⟨k1, k2⟩ := hK h0 n hn
  have f2 := E (732 + 4 * n + 2) (by omega)
  have f3 := E (732 + 4 * n + 3) (by omega)
  rw [f2, f3]
  refine ⟨fun i h1 h2 h8 => ?_, fun hlt => ?_⟩
  · rw [rf_sc, E (780 + 2 * i) (by omega)] at h8
    exact rf_n_congr (E _ (by omega)) (k1 i h1 h2 h8)
  · rw [rf_tl_c (v := w) _ _ _ (fun k h1 h2 => E _ (by omega))]; exact k2 hlt
/-- a world that stands well behind i calls -/
def cl_G (w : rf_W) (i : Nat) : Prop := rf_I w ∧ rf_Lw w ∧ rf_Lk w ∧ rf_n (w 7) (601 * i + 1) ∧ rf_n (w 5) (60 * i + 1)
theorem cl_G.D {w w' : rf_W} {i : Nat} (g : cl_G w i) (E : rf_eD w w') : cl_G w' i := ⟨rf_I_D g.1 E, rf_Lw_D g.2.1 E, rf_Lk_D g.2.1 g.2.2.1 E, rf_n_congr (E 7 (by omega)) g.2.2.2.1, rf_n_congr (E 5 (by omega)) g.2.2.2.2⟩
theorem cl_G.mono {w : rf_W} {i j : Nat} (g : cl_G w i) (h : i ≤ j) : cl_G w j := ⟨g.1, g.2.1, g.2.2.1, ⟨g.2.2.2.1.1, by have := g.2.2.2.1.2; omega⟩, ⟨g.2.2.2.2.1, by have := g.2.2.2.2.2; omega⟩⟩
/-- class and reference side by side behind i calls: the reference's rows are h 322 (o), h 323 (w), h 324 (img), h 327 (a), h 328 (t) -/
def cl_R (r : am_R) (h : am_H) (i : Nat) : Prop :=
  (cl_G (h 323) i ∧ cl_Lo h 4 (h 323) ∧ cl_Sc h 25 (h 323) ∧ cl_La h 17 (h 323)) ∧
  (rf_Ob (h 322) ∧ (h 1) 1 = (h 322) 9 ∧ cl_by (h 2) (h 328) (rf_nat ((h 322) 9))) ∧
  ((h 0) 12 = (h 322) 14 ∧ (h 0) 11 = (h 322) 6 ∧ ((h 322) 6 ≠ 0 → cl_G (h 324) i ∧ cl_Lo h 94 (h 324) ∧ cl_Sc h 115 (h 324) ∧ cl_La h 107 (h 324))) ∧
  (rf_n ((h 322) 7) 13 ∧ cl_Pa r h (h 322) (h 323) (h 327) ∧ ∀ k, k < rf_rmd (h 322) → rf_Es (h 323) (rf_act (h 323) (h 327) k) ∧ cl_G (rf_act (h 323) (h 327) k) i)
/-- only what the relation does not look at has changed; the reference's own row by what it throws -/
theorem cl_R.k {r : am_R} {h c : am_H} {i : Nat} (R : cl_R r h i) (F : ∀ j, j < 23 ∨ 25 ≤ j → j < 40 ∨ 93 ≤ j → j ≠ 130 → j < 314 ∨ 322 ≤ j → j < 329 → j ≠ 322 → j ≠ 325 → j ≠ 326 → c j = h j) (o9 : ∀ k, k ≠ 0 → (c 322) k = (h 322) k) : cl_R r c (i + 1) := by
  obtain ⟨⟨g, L, S, A⟩, ⟨ob, z, by_⟩, ⟨w1, im, img⟩, ⟨n7, pa, acts⟩⟩ := R
  have f : ∀ j, j < 23 ∨ 25 ≤ j → j < 40 ∨ 93 ≤ j → j < 130 ∨ 130 < j → j < 314 ∨ 322 < j → j < 329 → j ≠ 325 → j ≠ 326 → c j = h j := fun j a1 a2 a3 a4 a5 a6 a7 => F j a1 a2 (by omega) (by omega) a5 (by omega) a6 a7
  have f323 := f 323 (by decide) (by decide) (by decide) (by decide) (by decide) (by decide) (by decide)
  have f324 := f 324 (by decide) (by decide) (by decide) (by decide) (by decide) (by decide) (by decide)
  have f327 := f 327 (by decide) (by decide) (by decide) (by decide) (by decide) (by decide) (by decide)
  have f328 := f 328 (by decide) (by decide) (by decide) (by decide) (by decide) (by decide) (by decide)
  have f0 := f 0 (by decide) (by decide) (by decide) (by decide) (by decide) (by decide) (by decide)
  have f1 := f 1 (by decide) (by decide) (by decide) (by decide) (by decide) (by decide) (by decide)
  have f2 := f 2 (by decide) (by decide) (by decide) (by decide) (by decide) (by decide) (by decide)
  have er : rf_rmd (c 322) = rf_rmd (h 322) := by rw [rf_rmd, rf_rmd, o9 7 (by decide)]
  have gl : ∀ j, 4 ≤ j → j < 40 → j < 23 ∨ 25 ≤ j → c j = h j := fun j a b d => f j d (by omega) (by omega) (by omega) (by omega) (by omega) (by omega)
  unfold cl_R
  rw [f323, f324, f327, f328, f0, f1, f2, er, o9 9 (by decide), o9 14 (by decide), o9 6 (by decide), o9 7 (by decide)]
  refine ⟨⟨g.mono (by omega), cl_Lo_eq (fun j a b => gl j (by omega) (by omega) (by omega)) L, cl_Sc_eq (fun j a b => gl j (by omega) (by omega) (by omega)) S, cl_La_eq (fun j a b => gl j (by omega) (by omega) (by omega)) A⟩, ⟨⟨by rw [o9 9 (by decide)]; exact ob.1, by rw [o9 12 (by decide)]; exact ob.2⟩, z, by_⟩, ⟨w1, im, fun h6 => ?_⟩, ⟨n7, ?_, fun k hk => ⟨(acts k hk).1, (acts k hk).2.mono (by omega)⟩⟩⟩
  · obtain ⟨g', L', S', A'⟩ := img h6
    exact ⟨g'.mono (by omega), cl_Lo_eq (fun j a b => f j (by omega) (by omega) (by omega) (by omega) (by omega) (by omega) (by omega)) L', cl_Sc_eq (fun j a b => f j (by omega) (by omega) (by omega) (by omega) (by omega) (by omega) (by omega)) S', cl_La_eq (fun j a b => f j (by omega) (by omega) (by omega) (by omega) (by omega) (by omega) (by omega)) A'⟩
  · obtain ⟨p1, q, p2, p3⟩ := pa
    refine ⟨by rw [f 132 (by decide) (by decide) (by decide) (by decide) (by decide) (by decide) (by decide), o9 7 (by decide)]; exact p1, q, p2, fun k hk => ?_⟩
    rw [er] at hk
    have hm : (k + q) % 12 < 12 := Nat.mod_lt _ (by decide)
    exact cl_Sc_eq (fun j a b => f j (by omega) (by omega) (by omega) (by omega) (by omega) (by omega) (by omega)) (p3 k hk)
end REL1
