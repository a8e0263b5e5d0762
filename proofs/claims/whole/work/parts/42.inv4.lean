/-! WHAT STAYS TRUE of the reference's world, fourth part: the lines of a war -/
section INV4
theorem rf_n_mono {x : Int32} {b c : Nat} (h : rf_n x b) (hc : b ≤ c) : rf_n x c := ⟨h.1, Nat.lt_of_lt_of_le h.2 hc⟩
theorem am_lo_mono {x : Int32} {a b : Nat} (h : am_lo x a) (hb : a ≤ b) : am_lo x b := fun k hk => h k (Nat.le_trans hb hk)
theorem am_lo_or {x y : Int32} {n : Nat} (hx : am_lo x n) (hy : am_lo y n) : am_lo (x ||| y) n := fun k hk => by rw [am_bt_or, hx k hk, hy k hk]; rfl
theorem am_lo_bit {m n : Nat} (hm : m < n) (hn : n ≤ 32) : am_lo (rf_bit m) n := by
  intro k hk
  by_cases h32 : k < 32
  · rw [rf_bit, am_bt_1 (by omega) h32, decide_eq_false (by omega)]
  · exact am_bt_big (by omega)
theorem rf_ms_lo {t w : rf_W} (hM : rf_M w < 17) : ∀ f x o, am_lo x (rf_M w) → (rf_ms t w f x o).1 = -1 ∨ am_lo (rf_ms t w f x o).1 (rf_M w)
  | 0, x, o, h => by rw [rf_ms]; exact Or.inl rfl
  | f + 1, x, o, h => by
    have hle : rf_rM t o w ≤ rf_M w := rf_rM_le hM
    rw [rf_ms]
    by_cases h0 : rf_rM t o w = 0
    · rw [if_pos h0]; exact Or.inl rfl
    · rw [if_neg h0]
      have hx : am_lo (x ||| rf_bit (rf_rM t o w - 1)) (rf_M w) := am_lo_or h (am_lo_bit (by omega) (by omega))
      cases rf_rFig t (rf_oNum t o) with
      | true => exact rf_ms_lo hM f _ _ hx
      | false => exact Or.inr hx
theorem rf_mt_lo {t w o : rf_W} (hM : rf_M w < 17) (h : ¬ (rf_mt t o w).1 < 0) : am_lo (rf_mt t o w).1 (rf_M w) := by
  rcases rf_ms_lo (t := t) hM 402 (nI 0) o (am_lo_0 _) with e | e
  · exact absurd (show (rf_mt t o w).1 < 0 by rw [show (rf_mt t o w).1 = -1 from e]; decide) h
  · exact e
theorem rf_needs_lo {t w o : rf_W} (hM : rf_M w < 17) (h : ¬ (rf_needs t o w).1 < 0) : am_lo (rf_needs t o w).1 (rf_M w) := by
  cases e : rf_rPas t o 1 with
  | true => rw [rf_needs_t e] at h ⊢; exact rf_mt_lo hM h
  | false => rw [rf_needs_f e]; exact am_lo_0 _
theorem rf_Is_mono {w w' : rf_W} {s : Nat} (h : ∀ k, k < 23 → rf_of w' s k = rf_of w s k) (hM : rf_M w ≤ rf_M w') (hs : rf_Is w s) : rf_Is w' s := by
  obtain ⟨h0, h2, h1, hw, h9, hl, hd, hb⟩ := hs
  have e2 : rf_ofn w' s 2 = rf_ofn w s 2 := by rw [rf_ofn, rf_ofn, h 2 (by omega)]
  have ek : rf_kn w' s = rf_kn w s := by rw [rf_kn, rf_kn, rf_ofn, rf_ofn, h 9 (by omega)]
  have hk : rf_kn w s < 13 := h9.2
  have hn : rf_ofn w s 2 < 7 := h2.2
  have el : ∀ k, k < rf_kn w s → rf_li w' s k = rf_li w s k := fun k hk' => by rw [rf_li, rf_li, rf_ofn, rf_ofn, h (10 + k) (by omega)]
  refine ⟨rf_n_congr (h 0 (by omega)) h0, rf_n_congr (h 2 (by omega)) h2, ?_, fun j hj => ?_, rf_n_congr (h 9 (by omega)) h9, fun k hk' => ?_, fun j k hj hk' e => ?_, ?_⟩
  · rw [e2]; exact rf_n_congr (h 1 (by omega)) h1
  · rw [e2] at hj; exact rf_n_congr (h (3 + j) (by omega)) (hw j hj)
  · rw [ek] at hk'; exact rf_n_mono (rf_n_congr (h (10 + k) (by omega)) (hl k hk')) hM
  · rw [ek] at hj hk'
    rw [el j hj, el k hk'] at e
    exact hd j k hj hk' e
  · rw [h 22 (by omega)]; exact am_lo_mono hb hM
/-- what a line of a war leaves: the hour, the seed, the field, the log, the law -/
def rf_Ew (w w' : rf_W) : Prop := ∀ a, (3 ≤ a ∧ a < 11) ∨ 311 ≤ a → w' a = w a
theorem rf_Ew.rf {w : rf_W} : rf_Ew w w := fun _ _ => rfl
theorem rf_Ew.tr {w1 w2 w3 : rf_W} (h : rf_Ew w1 w2) (g : rf_Ew w2 w3) : rf_Ew w1 w3 := fun a ha => (g a ha).trans (h a ha)
theorem rf_I_grow {w w' : rf_W} (hI : rf_I w) (hE : rf_Ew w w') (hM : rf_M w ≤ rf_M w') (hS : rf_S w ≤ rf_S w') (hC : rf_Cn w') (hs : ∀ s, s < rf_S w' → rf_Is w' s) (hm : ∀ m, m < rf_M w' → rf_Im w' m) (ho : ∀ o, o < rf_O w' → rf_Io w' o)
    (hp : am_lo (w' 11) (rf_M w') ∧ am_lo (w' 12) (rf_M w')) : rf_I w' := by
  obtain ⟨-, -, -, -, ⟨x3, x4, x6, x9⟩, -, hf, hl⟩ := hI
  have eF : rf_F w' = rf_F w := by rw [rf_F, rf_F, hE 6 (by omega)]
  have eG : rf_G w' = rf_G w := by rw [rf_G, rf_G, hE 9 (by omega)]
  refine ⟨hC, hs, hm, ho, ⟨rf_n_congr (hE 3 (by omega)) x3, rf_n_congr (hE 4 (by omega)) x4, rf_n_congr (hE 6 (by omega)) x6, rf_n_congr (hE 9 (by omega)) x9⟩, hp, fun f hf' => ?_, fun a ha => ?_⟩
  · rw [eF] at hf'
    obtain ⟨a1, a2, a3⟩ := hf f hf'
    exact ⟨rf_n_mono (rf_n_congr (hE (311 + 3 * f + 0) (by omega)) a1) hM, rf_n_congr (hE (311 + 3 * f + 1) (by omega)) a2, rf_n_mono (rf_n_congr (hE (311 + 3 * f + 2) (by omega)) a3) hS⟩
  · rw [eG] at ha
    obtain ⟨a1, a2, a3⟩ := hl a ha
    exact ⟨rf_n_mono (rf_n_congr (hE (431 + 5 * a + 1) (by omega)) a1) hS, rf_n_mono (rf_n_congr (hE (431 + 5 * a + 2) (by omega)) a2) hS, rf_n_mono (rf_n_congr (hE (431 + 5 * a + 3) (by omega)) a3) hM⟩
theorem rf_I_addM {w : rf_W} {v : Nat} {x : Int32} (hI : rf_I w) (h16 : rf_M w < 16) (hv : v < 100) (hx : am_lo x (rf_M w)) : rf_I (rf_addM w (nI v) x) ∧ rf_Ew w (rf_addM w (nI v) x) := by
  have eM : rf_M (rf_addM w (nI v) x) = rf_M w + 1 := by rw [rf_M, rf_addM, rf_upd_eq, rf_nat_nI (by omega)]
  have e0 : rf_addM w (nI v) x 0 = nI (rf_M w + 1) := by rw [rf_addM, rf_upd_eq]
  have eo : ∀ a, a ≠ 0 → a ≠ 13 + 3 * rf_M w → a ≠ 13 + 3 * rf_M w + 1 → a ≠ 13 + 3 * rf_M w + 2 → rf_addM w (nI v) x a = w a := fun a h1 h2 h3 h4 => by rw [rf_addM, rf_upd_ne h1, rf_upd_ne h4, rf_upd_ne h3, rf_upd_ne h2]
  have m0 : rf_mem (rf_addM w (nI v) x) (rf_M w) 0 = nI v := by rw [rf_mem, rf_addM, rf_upd_ne (by omega), rf_upd_ne (by omega), rf_upd_ne (by omega), Nat.add_zero, rf_upd_eq]
  have m1 : rf_mem (rf_addM w (nI v) x) (rf_M w) 1 = x := by rw [rf_mem, rf_addM, rf_upd_ne (by omega), rf_upd_ne (by omega), rf_upd_eq]
  have m2 : rf_mem (rf_addM w (nI v) x) (rf_M w) 2 = nI 0 := by rw [rf_mem, rf_addM, rf_upd_ne (by omega), rf_upd_eq]
  generalize rf_addM w (nI v) x = w' at eM e0 eo m0 m1 m2 ⊢
  have hE : rf_Ew w w' := fun a ha => eo a (by omega) (by omega) (by omega) (by omega)
  have eS : rf_S w' = rf_S w := by rw [rf_S, rf_S, eo 1 (by omega) (by omega) (by omega) (by omega)]
  have eO : rf_O w' = rf_O w := by rw [rf_O, rf_O, eo 2 (by omega) (by omega) (by omega) (by omega)]
  obtain ⟨⟨c0, c1, c2⟩, hs, hm, ho, -, ⟨p1, p2⟩, -, -⟩ := id hI
  have hS : rf_S w < 11 := c1.2
  have hO : rf_O w < 11 := c2.2
  refine ⟨rf_I_grow hI hE (by omega) (by omega) ⟨?_, ?_, ?_⟩ (fun s hs' => ?_) (fun m hm' => ?_) (fun o ho' => ?_) ⟨?_, ?_⟩, hE⟩
  · rw [e0]; exact rf_n_mk (by omega) (by omega)
  · exact rf_n_congr (eo 1 (by omega) (by omega) (by omega) (by omega)) c1
  · exact rf_n_congr (eo 2 (by omega) (by omega) (by omega) (by omega)) c2
  · rw [eS] at hs'
    exact rf_Is_mono (fun k hk => eo _ (by omega) (by omega) (by omega) (by omega)) (by omega) (hs s hs')
  · rw [eM] at hm'
    by_cases e : m = rf_M w
    · subst e
      exact ⟨by rw [m0]; exact rf_n_mk hv (by omega), by rw [m1]; exact hx, by rw [m2]; exact am_lo_0 _⟩
    · obtain ⟨a1, a2, a3⟩ := hm m (by omega)
      exact ⟨rf_n_congr (eo _ (by omega) (by omega) (by omega) (by omega)) a1, by rw [rf_mem, eo _ (by omega) (by omega) (by omega) (by omega)]; exact a2, by rw [rf_mem, eo _ (by omega) (by omega) (by omega) (by omega)]; exact am_lo_mono a3 (by omega)⟩
  · rw [eO] at ho'
    obtain ⟨a1, a2⟩ := ho o ho'
    exact ⟨by rw [eS]; exact rf_n_congr (eo _ (by omega) (by omega) (by omega) (by omega)) a1, by rw [rf_ord, eo _ (by omega) (by omega) (by omega) (by omega)]; exact am_lo_mono a2 (by omega)⟩
  · rw [eo 11 (by omega) (by omega) (by omega) (by omega)]; exact am_lo_mono p1 (by omega)
  · rw [eo 12 (by omega) (by omega) (by omega) (by omega)]; exact am_lo_mono p2 (by omega)
/-- a soldier on the way in: n places told -/
def rf_Wy (w0 : rf_W) (s n : Nat) (w : rf_W) : Prop := (∀ a, (a < 61 + 23 * s ∨ 84 + 23 * s ≤ a) → w a = w0 a) ∧ rf_n (rf_of w s 0) 2 ∧ (∀ j, j < n → rf_n (rf_of w s (3 + j)) 8) ∧ ∀ k, k = 1 ∨ k = 2 ∨ (9 ≤ k ∧ k < 23) → rf_of w s k = nI 0
/-- a soldier is in -/
def rf_In (w0 : rf_W) (s : Nat) (w : rf_W) : Prop := (∀ a, a ≠ 1 → (a < 61 + 23 * s ∨ 84 + 23 * s ≤ a) → w a = w0 a) ∧ w 1 = nI (s + 1) ∧ rf_n (rf_of w s 0) 2 ∧ (∃ n, 0 < n ∧ n < 7 ∧ rf_of w s 2 = nI n ∧ ∀ j, j < n → rf_n (rf_of w s (3 + j)) 8) ∧ ∀ k, k = 1 ∨ (9 ≤ k ∧ k < 23) → rf_of w s k = nI 0
theorem rf_Wy_s {w0 w : rf_W} {s n : Nat} {v : Nat} (h : rf_Wy w0 s n w) (hn : n < 6) (hv : v < 8) : rf_Wy w0 s (n + 1) (upd w (61 + 23 * s + (3 + n)) (nI v)) := by
  obtain ⟨h1, h2, h3, h4⟩ := h
  refine ⟨fun a ha => by rw [rf_upd_ne (by omega)]; exact h1 a ha, by rw [rf_of_upd (by omega)]; exact h2, fun j hj => ?_, fun k hk => by rw [rf_of_upd (by omega)]; exact h4 k hk⟩
  by_cases e : j = n
  · subst e; rw [rf_of, rf_upd_eq]; exact rf_n_mk hv (by omega)
  · rw [rf_of_upd (by omega)]; exact h3 j (by omega)
theorem rf_way_ok {t w0 : rf_W} {s : Nat} (hs : s < 10) : ∀ f n o w, rf_Wy w0 s n w → n ≤ 6 → (rf_way t s f n o w).1 = true → rf_In w0 s (rf_way t s f n o w).2.2
  | 0, n, o, w, _, _, h => by rw [rf_way] at h; exact absurd h Bool.false_ne_true
  | f + 1, n, o, w, hw, hn, h => by
    rw [rf_way] at h ⊢
    by_cases hc : rf_rNum t o 0 (nI 7) = 0 ∨ n = 6
    · rw [if_pos hc] at h; exact absurd h Bool.false_ne_true
    · rw [if_neg hc] at h ⊢
      have h0 : rf_rNum t o 0 (nI 7) ≠ 0 := fun z => hc (Or.inl z)
      have h6 : n ≠ 6 := fun z => hc (Or.inr z)
      have hv := (rf_num_le (t := t) (o := o) (low := 0) (n := 7) (by decide) h0).1
      have hw2 := rf_Wy_s (v := rf_rNum t o 0 (nI 7) - 1) hw (by omega) (by omega)
      cases hf : rf_rFig t (rf_oNum t o) with
      | true =>
        rw [hf] at h
        exact rf_way_ok hs f (n + 1) _ _ hw2 (by omega) h
      | false =>
        obtain ⟨h1, h2, h3, h4⟩ := hw2
        show rf_In w0 s (upd (upd (upd w (61 + 23 * s + (3 + n)) (nI (rf_rNum t o 0 (nI 7) - 1))) (61 + 23 * s + 2) (nI (n + 1))) 1 (nI (s + 1)))
        generalize upd w (61 + 23 * s + (3 + n)) (nI (rf_rNum t o 0 (nI 7) - 1)) = w2 at h1 h2 h3 h4 ⊢
        refine ⟨fun a ha hb => ?_, rf_upd_eq, ?_, ⟨n + 1, by omega, by omega, ?_, fun j hj => ?_⟩, fun k hk => ?_⟩
        · rw [rf_upd_ne ha, rf_upd_ne (by omega)]; exact h1 a hb
        · rw [rf_of_upd (by omega), rf_of_upd (by omega)]; exact h2
        · rw [rf_of_upd (by omega), rf_of, rf_upd_eq]
        · rw [rf_of_upd (by omega), rf_of_upd (by omega)]; exact h3 j hj
        · rw [rf_of_upd (by omega), rf_of_upd (by omega)]; exact h4 k (by omega)
theorem rf_zs_in {w : rf_W} {s k : Nat} : ∀ n, k < n → rf_zs w s n (61 + 23 * s + k) = nI 0
  | 0, h => absurd h (by omega)
  | n + 1, h => by
    rw [rf_zs]
    by_cases e : k = n
    · subst e; exact rf_upd_eq
    · rw [rf_upd_ne (by omega)]; exact rf_zs_in n (by omega)
theorem rf_Wy_0 {w : rf_W} {s v : Nat} (hs : s < 10) (hv : v < 2) : rf_Wy w s 0 (upd (rf_zs w s 23) (61 + 23 * s + 0) (nI v)) := by
  refine ⟨fun a ha => by rw [rf_upd_ne (by omega), rf_zs_out 23 (by omega)], by rw [rf_of, rf_upd_eq]; exact rf_n_mk hv (by omega), fun j hj => absurd hj (by omega), fun k hk => ?_⟩
  rw [rf_of_upd (by omega), rf_of]
  exact rf_zs_in 23 (by omega)
theorem rf_I_in {w w' : rf_W} (hI : rf_I w) (h10 : rf_S w < 10) (h : rf_In w (rf_S w) w') : rf_I w' ∧ rf_Ew w w' := by
  obtain ⟨h1, h2, h3, ⟨n, n0, n7, h4, h5⟩, h6⟩ := h
  have hE : rf_Ew w w' := fun a ha => h1 a (by omega) (by omega)
  obtain ⟨⟨c0, c1, c2⟩, hs, hm, ho, -, ⟨p1, p2⟩, -, -⟩ := id hI
  have hM : rf_M w < 17 := c0.2
  have hO : rf_O w < 11 := c2.2
  have eM : rf_M w' = rf_M w := by rw [rf_M, rf_M, h1 0 (by omega) (by omega)]
  have eS : rf_S w' = rf_S w + 1 := by rw [rf_S, h2, rf_nat_nI (by omega)]
  have eO : rf_O w' = rf_O w := by rw [rf_O, rf_O, h1 2 (by omega) (by omega)]
  refine ⟨rf_I_grow hI hE (by omega) (by omega) ⟨rf_n_congr (h1 0 (by omega) (by omega)) c0, by rw [h2]; exact rf_n_mk (by omega) (by omega), rf_n_congr (h1 2 (by omega) (by omega)) c2⟩ (fun s hs' => ?_) (fun m hm' => ?_) (fun o ho' => ?_) ⟨?_, ?_⟩, hE⟩
  · by_cases e : s = rf_S w
    · subst e
      have e9 : rf_of w' (rf_S w) 9 = nI 0 := h6 9 (by omega)
      have ek : rf_kn w' (rf_S w) = 0 := by rw [rf_kn, rf_ofn, e9, rf_nat_nI (by omega)]
      have e2 : rf_ofn w' (rf_S w) 2 = n := by rw [rf_ofn, h4, rf_nat_nI (by omega)]
      refine ⟨h3, by rw [h4]; exact rf_n_mk n7 (by omega), ?_, fun j hj => h5 j (by omega), by rw [e9]; exact rf_n_mk (by omega) (by omega), fun k hk => absurd hk (by omega), fun j k hj => absurd hj (by omega), by rw [h6 22 (by omega)]; exact am_lo_0 _⟩
      rw [h6 1 (by omega), e2]; exact rf_n_mk n0 (by omega)
    · exact rf_Is_congr (fun k hk => h1 _ (by omega) (by omega)) eM (hs s (by omega))
  · obtain ⟨a1, a2, a3⟩ := hm m (by omega)
    exact ⟨rf_n_congr (h1 _ (by omega) (by omega)) a1, by rw [rf_mem, h1 _ (by omega) (by omega)]; exact a2, by rw [rf_mem, h1 _ (by omega) (by omega), eM]; exact a3⟩
  · obtain ⟨a1, a2⟩ := ho o (by omega)
    exact ⟨rf_n_mono (rf_n_congr (h1 _ (by omega) (by omega)) a1) (by omega), by rw [rf_ord, h1 _ (by omega) (by omega), eM]; exact a2⟩
  · rw [h1 11 (by omega) (by omega), eM]; exact p1
  · rw [h1 12 (by omega) (by omega), eM]; exact p2
theorem rf_I_kns {t w0 : rf_W} {s : Nat} : ∀ f o w, rf_I w → s < rf_S w → (rf_kns t s f o w).1 = true → rf_I (rf_kns t s f o w).2.2 ∧ rf_Ew w (rf_kns t s f o w).2.2
  | 0, o, w, _, _, h => by rw [rf_kns] at h; exact absurd h Bool.false_ne_true
  | f + 1, o, w, hI, hs, h => by
    have hM : rf_M w < 17 := hI.1.1.2
    have hS : rf_S w < 11 := hI.1.2.1.2
    have hle : rf_rM t o w ≤ rf_M w := rf_rM_le hM
    have hkn : rf_kn w s < 13 := (hI.2.1 s hs).2.2.2.2.1.2
    rw [rf_kns] at h ⊢
    by_cases hc : rf_rM t o w = 0 ∨ am_bt (rf_known w s) (rf_rM t o w - 1) = true ∨ rf_kn w s = 12
    · rw [if_pos hc] at h; exact absurd h Bool.false_ne_true
    · rw [if_neg hc] at h ⊢
      have c1 : rf_rM t o w ≠ 0 := fun z => hc (Or.inl z)
      have c2 : am_bt (rf_known w s) (rf_rM t o w - 1) = false := Bool.eq_false_iff.mpr fun z => hc (Or.inr (Or.inl z))
      have c3 : rf_kn w s ≠ 12 := fun z => hc (Or.inr (Or.inr z))
      have hI2 := rf_I_app hI hs (by omega) (show rf_rM t o w - 1 < rf_M w by omega) c2
      have hE2 : rf_Ew w (rf_app w s (rf_rM t o w - 1)) := fun a ha => by rw [rf_app, rf_upd_ne (by omega), rf_upd_ne (by omega)]
      cases hf : rf_rFig t (rf_oNum t o) with
      | true =>
        rw [hf] at h
        obtain ⟨a, b⟩ := rf_I_kns (w0 := w0) f (rf_oBl t (rf_oNum t o)) (rf_app w s (rf_rM t o w - 1)) hI2 (by rw [rf_S_app]; exact hs) h
        exact ⟨a, hE2.tr b⟩
      | false => exact ⟨hI2, hE2⟩
theorem rf_I_book {w : rf_W} {s : Nat} {x : Int32} (hI : rf_I w) (hs : s < rf_S w) (hx : am_lo x (rf_M w)) : rf_I (upd w (61 + 23 * s + 22) (rf_of w s 22 ||| x)) := by
  have hS : rf_S w < 11 := hI.1.2.1.2
  have ho : ∀ a, a ≠ 61 + 23 * s + 22 → upd w (61 + 23 * s + 22) (rf_of w s 22 ||| x) a = w a := fun a h => rf_upd_ne h
  have e1 : rf_of (upd w (61 + 23 * s + 22) (rf_of w s 22 ||| x)) s 22 = rf_of w s 22 ||| x := rf_upd_eq
  generalize upd w (61 + 23 * s + 22) (rf_of w s 22 ||| x) = w' at ho e1 ⊢
  refine rf_I_sol (s := s) hI (fun a ha _ _ _ _ => ho a (by omega)) ?_ (by omega)
  obtain ⟨h0, h2, h1, hw, h9, hl, hd, hb⟩ := hI.2.1 s hs
  have hn7 : rf_ofn w s 2 < 7 := h2.2
  have hkn : rf_kn w s < 13 := h9.2
  have eo : ∀ k, k ≠ 22 → rf_of w' s k = rf_of w s k := fun k hk => ho _ (by omega)
  have eM : rf_M w' = rf_M w := by rw [rf_M, rf_M, ho 0 (by omega)]
  have e2 : rf_ofn w' s 2 = rf_ofn w s 2 := by rw [rf_ofn, rf_ofn, eo 2 (by omega)]
  have ek : rf_kn w' s = rf_kn w s := by rw [rf_kn, rf_kn, rf_ofn, rf_ofn, eo 9 (by omega)]
  have el : ∀ k, k < 12 → rf_li w' s k = rf_li w s k := fun k hk => by rw [rf_li, rf_li, rf_ofn, rf_ofn, eo (10 + k) (by omega)]
  refine ⟨rf_n_congr (eo 0 (by omega)) h0, rf_n_congr (eo 2 (by omega)) h2, ?_, fun j hj => ?_, rf_n_congr (eo 9 (by omega)) h9, fun k hk => ?_, fun j k hj hk e => ?_, ?_⟩
  · rw [e2]; exact rf_n_congr (eo 1 (by omega)) h1
  · rw [e2] at hj; exact rf_n_congr (eo _ (by omega)) (hw j hj)
  · rw [ek] at hk; rw [eM]; exact rf_n_congr (eo _ (by omega)) (hl k hk)
  · rw [ek] at hj hk; rw [el j (by omega), el k (by omega)] at e; exact hd j k hj hk e
  · rw [e1, eM]; exact am_lo_or hb hx
theorem rf_I_order {w : rf_W} {s : Nat} {x : Int32} (hI : rf_I w) (h10 : rf_O w < 10) (hs : s < rf_S w) (hx : am_lo x (rf_M w)) : rf_I (upd (upd (upd w (291 + 2 * rf_O w) (nI s)) (291 + 2 * rf_O w + 1) x) 2 (nI (rf_O w + 1))) ∧ rf_Ew w (upd (upd (upd w (291 + 2 * rf_O w) (nI s)) (291 + 2 * rf_O w + 1) x) 2 (nI (rf_O w + 1))) := by
  have hS : rf_S w < 11 := hI.1.2.1.2
  have hM : rf_M w < 17 := hI.1.1.2
  have eo : ∀ a, a ≠ 2 → a ≠ 291 + 2 * rf_O w → a ≠ 291 + 2 * rf_O w + 1 → upd (upd (upd w (291 + 2 * rf_O w) (nI s)) (291 + 2 * rf_O w + 1) x) 2 (nI (rf_O w + 1)) a = w a := fun a h1 h2 h3 => by rw [rf_upd_ne h1, rf_upd_ne h3, rf_upd_ne h2]
  have e2 : upd (upd (upd w (291 + 2 * rf_O w) (nI s)) (291 + 2 * rf_O w + 1) x) 2 (nI (rf_O w + 1)) 2 = nI (rf_O w + 1) := rf_upd_eq
  have o0 : rf_ord (upd (upd (upd w (291 + 2 * rf_O w) (nI s)) (291 + 2 * rf_O w + 1) x) 2 (nI (rf_O w + 1))) (rf_O w) 0 = nI s := by rw [rf_ord, rf_upd_ne (by omega), rf_upd_ne (by omega), Nat.add_zero, rf_upd_eq]
  have o1 : rf_ord (upd (upd (upd w (291 + 2 * rf_O w) (nI s)) (291 + 2 * rf_O w + 1) x) 2 (nI (rf_O w + 1))) (rf_O w) 1 = x := by rw [rf_ord, rf_upd_ne (by omega), rf_upd_eq]
  generalize upd (upd (upd w (291 + 2 * rf_O w) (nI s)) (291 + 2 * rf_O w + 1) x) 2 (nI (rf_O w + 1)) = w' at eo e2 o0 o1 ⊢
  have hE : rf_Ew w w' := fun a ha => eo a (by omega) (by omega) (by omega)
  obtain ⟨⟨c0, c1, c2⟩, hs', hm, ho, -, ⟨p1, p2⟩, -, -⟩ := id hI
  have eM : rf_M w' = rf_M w := by rw [rf_M, rf_M, eo 0 (by omega) (by omega) (by omega)]
  have eS : rf_S w' = rf_S w := by rw [rf_S, rf_S, eo 1 (by omega) (by omega) (by omega)]
  have eO : rf_O w' = rf_O w + 1 := by rw [rf_O, e2, rf_nat_nI (by omega)]
  refine ⟨rf_I_grow hI hE (by omega) (by omega) ⟨rf_n_congr (eo 0 (by omega) (by omega) (by omega)) c0, rf_n_congr (eo 1 (by omega) (by omega) (by omega)) c1, by rw [e2]; exact rf_n_mk (by omega) (by omega)⟩ (fun s' h => ?_) (fun m hm' => ?_) (fun o ho' => ?_) ⟨?_, ?_⟩, hE⟩
  · exact rf_Is_congr (fun k hk => eo _ (by omega) (by omega) (by omega)) eM (hs' s' (by omega))
  · obtain ⟨a1, a2, a3⟩ := hm m (by omega)
    exact ⟨rf_n_congr (eo _ (by omega) (by omega) (by omega)) a1, by rw [rf_mem, eo _ (by omega) (by omega) (by omega)]; exact a2, by rw [rf_mem, eo _ (by omega) (by omega) (by omega), eM]; exact a3⟩
  · by_cases e : o = rf_O w
    · subst e
      exact ⟨by rw [o0, eS]; exact rf_n_mk hs (by omega), by rw [o1, eM]; exact hx⟩
    · obtain ⟨a1, a2⟩ := ho o (by omega)
      exact ⟨by rw [eS]; exact rf_n_congr (eo _ (by omega) (by omega) (by omega)) a1, by rw [rf_ord, eo _ (by omega) (by omega) (by omega), eM]; exact a2⟩
  · rw [eo 11 (by omega) (by omega) (by omega), eM]; exact p1
  · rw [eo 12 (by omega) (by omega) (by omega), eM]; exact p2
/-- numbers of memories' clashes and of plans change -/
theorem rf_I_pc {w w' : rf_W} (hI : rf_I w) (h : ∀ a, (∀ m, m < rf_M w → a ≠ 13 + 3 * m + 2) → a ≠ 11 → a ≠ 12 → w' a = w a) (hm : ∀ m, m < rf_M w → am_lo (rf_mem w' m 2) (rf_M w)) (h1 : am_lo (w' 11) (rf_M w)) (h2 : am_lo (w' 12) (rf_M w)) : rf_I w' ∧ rf_Ew w w' := by
  obtain ⟨⟨c0, c1, c2⟩, hs', hm', ho, -, -, -, -⟩ := id hI
  have hM : rf_M w < 17 := c0.2
  have hS : rf_S w < 11 := c1.2
  have hO : rf_O w < 11 := c2.2
  have eo : ∀ a, a < 11 ∨ 61 ≤ a → w' a = w a := fun a ha => h a (fun m hm => by omega) (by omega) (by omega)
  have hE : rf_Ew w w' := fun a ha => eo a (by omega)
  have eM : rf_M w' = rf_M w := by rw [rf_M, rf_M, eo 0 (by omega)]
  have eS : rf_S w' = rf_S w := by rw [rf_S, rf_S, eo 1 (by omega)]
  have eO : rf_O w' = rf_O w := by rw [rf_O, rf_O, eo 2 (by omega)]
  refine ⟨rf_I_grow hI hE (by omega) (by omega) ⟨rf_n_congr (eo 0 (by omega)) c0, rf_n_congr (eo 1 (by omega)) c1, rf_n_congr (eo 2 (by omega)) c2⟩ (fun s h => ?_) (fun m hmm => ?_) (fun o ho' => ?_) ⟨by rw [eM]; exact h1, by rw [eM]; exact h2⟩, hE⟩
  · exact rf_Is_congr (fun k hk => eo _ (by omega)) eM (hs' s (by omega))
  · obtain ⟨a1, a2, a3⟩ := hm' m (by omega)
    exact ⟨rf_n_congr (h _ (fun q hq => by omega) (by omega) (by omega)) a1, by rw [rf_mem, h _ (fun q hq => by omega) (by omega) (by omega)]; exact a2, by rw [eM]; exact hm m (by omega)⟩
  · obtain ⟨a1, a2⟩ := ho o (by omega)
    exact ⟨by rw [eS]; exact rf_n_congr (eo _ (by omega)) a1, by rw [rf_ord, eo _ (by omega), eM]; exact a2⟩
theorem rf_I_plan {w : rf_W} {d : Nat} {x : Int32} (hI : rf_I w) (hd : d < 2) (hx : am_lo x (rf_M w)) : rf_I (upd w (11 + d) (w (11 + d) ||| x)) ∧ rf_Ew w (upd w (11 + d) (w (11 + d) ||| x)) := by
  obtain ⟨-, -, hm', -, -, ⟨p1, p2⟩, -, -⟩ := id hI
  refine rf_I_pc hI (fun a _ h1 h2 => rf_upd_ne (by omega)) (fun m hm => ?_) ?_ ?_
  · rw [rf_mem, rf_upd_ne (by omega)]; exact (hm' m hm).2.2
  · by_cases e : d = 0
    · subst e; rw [show 11 + 0 = 11 from rfl, rf_upd_eq]; exact am_lo_or p1 hx
    · rw [rf_upd_ne (by omega)]; exact p1
  · by_cases e : d = 1
    · subst e; rw [show 11 + 1 = 12 from rfl, rf_upd_eq]; exact am_lo_or p2 hx
    · rw [rf_upd_ne (by omega)]; exact p2
theorem rf_I_clash {w : rf_W} {a b : Nat} (hI : rf_I w) (ha : a < rf_M w) (hb : b < rf_M w) : rf_I (rf_clash w a b) ∧ rf_Ew w (rf_clash w a b) := by
  obtain ⟨⟨c0, -, -⟩, -, hm', -, -, ⟨p1, p2⟩, -, -⟩ := id hI
  have hM : rf_M w < 17 := c0.2
  have ka : am_lo (w (13 + 3 * a + 2) ||| rf_bit b) (rf_M w) := am_lo_or (hm' a ha).2.2 (am_lo_bit hb (by omega))
  refine rf_I_pc hI (fun q h1 h2 h3 => ?_) (fun m hm => ?_) ?_ ?_
  · rw [rf_clash, rf_upd_ne (h1 b hb), rf_upd_ne (h1 a ha)]
  · rw [rf_mem, rf_clash]
    by_cases e : m = b
    · subst e
      rw [rf_upd_eq]
      by_cases e2 : m = a
      · subst e2; rw [rf_upd_eq]; exact am_lo_or ka (am_lo_bit ha (by omega))
      · rw [rf_upd_ne (by omega)]; exact am_lo_or (hm' m hm).2.2 (am_lo_bit ha (by omega))
    · rw [rf_upd_ne (by omega)]
      by_cases e2 : m = a
      · subst e2; rw [rf_upd_eq]; exact ka
      · rw [rf_upd_ne (by omega)]; exact (hm' m hm).2.2
  · rw [rf_clash, rf_upd_ne (by omega), rf_upd_ne (by omega)]; exact p1
  · rw [rf_clash, rf_upd_ne (by omega), rf_upd_ne (by omega)]; exact p2
theorem rf_I_lnW {t o w : rf_W} (hI : rf_I w) (h : (rf_lnW t o w).1 = true) : rf_I (rf_lnW t o w).2.2 ∧ rf_Ew w (rf_lnW t o w).2.2 := by
  obtain ⟨⟨c0, c1, c2⟩, -⟩ := id hI
  have hM : rf_M w < 17 := c0.2
  have hS : rf_S w < 11 := c1.2
  have hO : rf_O w < 11 := c2.2
  have hrS : rf_rS t o w ≤ rf_S w := rf_rS_le hS
  have hrM : rf_rM t o w ≤ rf_M w := rf_rM_le hM
  have bad : ∀ {P : Prop}, (false = true) → P := fun z => absurd z Bool.false_ne_true
  rw [rf_lnW] at h ⊢
  cases e0 : rf_isW t o 0 with
  | true =>
    rw [e0] at h
    have h' : (rf_lnM t o w).1 = true := h
    show rf_I (rf_lnM t o w).2.2 ∧ rf_Ew w (rf_lnM t o w).2.2
    rw [rf_lnM] at h' ⊢
    by_cases q1 : rf_M w = 16
    · rw [if_pos q1] at h'; exact bad h'
    · rw [if_neg q1] at h' ⊢
      by_cases q2 : rf_rNum t o 1 (nI 99) = 0
      · rw [if_pos q2] at h'; exact bad h'
      · rw [if_neg q2] at h' ⊢
        by_cases q3 : (rf_needs t (rf_oNum t o) w).1 < 0
        · rw [if_pos q3] at h'; exact bad h'
        · rw [if_neg q3]
          have hn := (rf_num_le (t := t) (o := o) (low := 1) (n := 99) (by decide) q2).1
          exact rf_I_addM hI (by omega) (by omega) (rf_needs_lo hM q3)
  | false =>
  rw [e0] at h
  cases e2 : rf_isW t o 2 with
  | true =>
    rw [e2] at h
    have h' : (rf_lnS t o w).1 = true := h
    show rf_I (rf_lnS t o w).2.2 ∧ rf_Ew w (rf_lnS t o w).2.2
    rw [rf_lnS] at h' ⊢
    by_cases q1 : rf_S w = 10
    · rw [if_pos q1] at h'; exact bad h'
    · rw [if_neg q1] at h' ⊢
      by_cases q2 : rf_rNum t o 0 (nI 1) = 0
      · rw [if_pos q2] at h'; exact bad h'
      · rw [if_neg q2] at h' ⊢
        have hn := (rf_num_le (t := t) (o := o) (low := 0) (n := 1) (by decide) q2).1
        exact rf_I_in hI (by omega) (rf_way_ok (by omega) 7 0 _ _ (rf_Wy_0 (by omega) (by omega)) (by omega) h')
  | false =>
  rw [e2] at h
  cases e3 : rf_isW t o 3 with
  | true =>
    rw [e3] at h
    have h' : (rf_lnK t o w).1 = true := h
    show rf_I (rf_lnK t o w).2.2 ∧ rf_Ew w (rf_lnK t o w).2.2
    rw [rf_lnK] at h' ⊢
    by_cases q1 : rf_rS t o w = 0
    · rw [if_pos q1] at h'; exact bad h'
    · rw [if_neg q1] at h' ⊢
      exact rf_I_kns (w0 := w) 402 _ w hI (by omega) h'
  | false =>
  rw [e3] at h
  cases e4 : rf_isW t o 4 with
  | true =>
    rw [e4] at h
    have h' : (rf_lnB t o w).1 = true := h
    show rf_I (rf_lnB t o w).2.2 ∧ rf_Ew w (rf_lnB t o w).2.2
    rw [rf_lnB] at h' ⊢
    by_cases q1 : rf_rS t o w = 0
    · rw [if_pos q1] at h'; exact bad h'
    · rw [if_neg q1] at h' ⊢
      by_cases q3 : (rf_mt t (rf_oNum t o) w).1 < 0
      · rw [if_pos q3] at h'; exact bad h'
      · rw [if_neg q3]
        exact ⟨rf_I_book hI (by omega) (rf_mt_lo hM q3), fun a ha => rf_upd_ne (by omega)⟩
  | false =>
  rw [e4] at h
  cases e5 : rf_isW t o 5 with
  | true =>
    rw [e5] at h
    have h' : (rf_lnO t o w).1 = true := h
    show rf_I (rf_lnO t o w).2.2 ∧ rf_Ew w (rf_lnO t o w).2.2
    rw [rf_lnO] at h' ⊢
    by_cases q0 : rf_O w = 10
    · rw [if_pos q0] at h'; exact bad h'
    · rw [if_neg q0] at h' ⊢
      by_cases q1 : rf_rS t o w = 0
      · rw [if_pos q1] at h'; exact bad h'
      · rw [if_neg q1] at h' ⊢
        by_cases q3 : (rf_mt t (rf_oNum t o) w).1 < 0
        · rw [if_pos q3] at h'; exact bad h'
        · rw [if_neg q3]
          exact rf_I_order hI (by omega) (by omega) (rf_mt_lo hM q3)
  | false =>
  rw [e5] at h
  cases e6 : rf_isW t o 6 with
  | true =>
    rw [e6] at h
    have h' : (rf_lnP t o w).1 = true := h
    show rf_I (rf_lnP t o w).2.2 ∧ rf_Ew w (rf_lnP t o w).2.2
    rw [rf_lnP] at h' ⊢
    by_cases q2 : rf_rNum t o 0 (nI 1) = 0
    · rw [if_pos q2] at h'; exact bad h'
    · rw [if_neg q2] at h' ⊢
      by_cases q3 : (rf_mt t (rf_oNum t o) w).1 < 0
      · rw [if_pos q3] at h'; exact bad h'
      · rw [if_neg q3]
        have hn := (rf_num_le (t := t) (o := o) (low := 0) (n := 1) (by decide) q2).1
        exact rf_I_plan hI (by omega) (rf_mt_lo hM q3)
  | false =>
  rw [e6] at h
  cases e7 : rf_isW t o 7 with
  | true =>
    rw [e7] at h
    have h' : (rf_lnC t o w).1 = true := h
    show rf_I (rf_lnC t o w).2.2 ∧ rf_Ew w (rf_lnC t o w).2.2
    have hrM2 : rf_rM t (rf_oNum t o) w ≤ rf_M w := rf_rM_le hM
    rw [rf_lnC] at h' ⊢
    by_cases q1 : rf_rM t o w = 0
    · rw [if_pos q1] at h'; exact bad h'
    · rw [if_neg q1] at h' ⊢
      by_cases q2 : rf_rM t (rf_oNum t o) w = 0 ∨ rf_rM t o w = rf_rM t (rf_oNum t o) w
      · rw [if_pos q2] at h'; exact bad h'
      · rw [if_neg q2]
        have q3 : rf_rM t (rf_oNum t o) w ≠ 0 := fun z => q2 (Or.inl z)
        exact rf_I_clash hI (by omega) (by omega)
  | false =>
    rw [e7] at h
    exact bad h
/-! the readers go on through the lines of a war -/
theorem rf_Tm_way {t : rf_W} {s : Nat} : ∀ f n o w, rf_To o → rf_b o ≤ rf_p o → rf_Tm o (rf_way t s f n o w).2.1
  | 0, n, o, w, h, hb => by rw [rf_way]; exact rf_Tm.rfl' h hb
  | f + 1, n, o, w, h, hb => by
    have h1 := rf_Tm_num (t := t) h
    have h2 := h1.tr (rf_Tm_bl (t := t) h1.1)
    rw [rf_way]
    split
    · exact h1
    · cases rf_rFig t (rf_oNum t o) with
      | true => exact h2.tr (rf_Tm_way f _ _ _ h2.1 h2.2.2.2)
      | false => exact h2
theorem rf_Tm_kns {t : rf_W} {s : Nat} : ∀ f o w, rf_To o → rf_b o ≤ rf_p o → rf_Tm o (rf_kns t s f o w).2.1
  | 0, o, w, h, hb => by rw [rf_kns]; exact rf_Tm.rfl' h hb
  | f + 1, o, w, h, hb => by
    have h1 := rf_Tm_num (t := t) h
    have h2 := h1.tr (rf_Tm_bl (t := t) h1.1)
    rw [rf_kns]
    split
    · exact h1
    · cases rf_rFig t (rf_oNum t o) with
      | true => exact h2.tr (rf_Tm_kns f _ _ h2.1 h2.2.2.2)
      | false => exact h2
theorem rf_Tm_lnW {t o w : rf_W} (h : rf_To o) (hb : rf_b o ≤ rf_p o) : rf_Tm o (rf_lnW t o w).2.1 := by
  have r0 := rf_Tm.rfl' h hb
  have h1 := rf_Tm_num (t := t) h
  have hmt := h1.tr (rf_Tm_mt (t := t) (w := w) h1.1 h1.2.2.2)
  rw [rf_lnW]
  cases rf_isW t o 0 with
  | true =>
    show rf_Tm o (rf_lnM t o w).2.1
    have hn := h1.tr (rf_Tm_needs (t := t) (w := w) h1.1)
    rw [rf_lnM]
    split
    · exact r0
    · split
      · exact h1
      · split
        · exact hn
        · exact hn
  | false =>
  cases rf_isW t o 2 with
  | true =>
    show rf_Tm o (rf_lnS t o w).2.1
    rw [rf_lnS]
    split
    · exact r0
    · split
      · exact h1
      · exact h1.tr (rf_Tm_way _ _ _ _ h1.1 h1.2.2.2)
  | false =>
  cases rf_isW t o 3 with
  | true =>
    show rf_Tm o (rf_lnK t o w).2.1
    rw [rf_lnK]
    split
    · exact h1
    · exact h1.tr (rf_Tm_kns _ _ _ h1.1 h1.2.2.2)
  | false =>
  cases rf_isW t o 4 with
  | true =>
    show rf_Tm o (rf_lnB t o w).2.1
    rw [rf_lnB]
    split
    · exact h1
    · split
      · exact hmt
      · exact hmt
  | false =>
  cases rf_isW t o 5 with
  | true =>
    show rf_Tm o (rf_lnO t o w).2.1
    rw [rf_lnO]
    split
    · exact r0
    · split
      · exact h1
      · split
        · exact hmt
        · exact hmt
  | false =>
  cases rf_isW t o 6 with
  | true =>
    show rf_Tm o (rf_lnP t o w).2.1
    rw [rf_lnP]
    split
    · exact h1
    · split
      · exact hmt
      · exact hmt
  | false =>
  cases rf_isW t o 7 with
  | true =>
    show rf_Tm o (rf_lnC t o w).2.1
    have h2 := h1.tr (rf_Tm_num (t := t) h1.1)
    rw [rf_lnC]
    split
    · exact h1
    · split
      · exact h2
      · exact h2
  | false => exact r0
end INV4
