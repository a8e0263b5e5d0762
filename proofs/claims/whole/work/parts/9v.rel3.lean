/-! THE LOOP: how far the counts go; the five acts -/
section REL3
theorem rf_hit_5 {w : rf_W} {b s : Nat} {g : Bool} (hI : rf_I w) (hs : s < rf_S w) (hk : 0 < rf_kn w s) : rf_hit w b s g 5 = w 5 := by
  have hS : rf_S w < 11 := hI.1.2.1.2
  have hk13 : rf_kn w s < 13 := (hI.2.1 s hs).2.2.2.2.1.2
  obtain ⟨ht0, htM, htq⟩ := rf_takes_ok (g := g) hI hs hk
  obtain ⟨hp1, -, -⟩ := rf_pos_spec htq
  have hF : rf_F (rf_lose w s (rf_takes w s g - 1)) < 41 := (rf_I_lose hI hs hp1).2.2.2.2.1.2.2.1.2
  rw [rf_hit, rf_logs, rf_upd_ne (by omega), rf_upd_ne (by omega), rf_upd_ne (by omega), rf_upd_ne (by omega), rf_upd_ne (by omega), rf_upd_ne (by omega), rf_sr_out (by omega), rf_upd_ne (by omega), rf_lie_out (by omega) (by omega) hF, rf_lose_out hp1 hk13 (by omega)]
theorem rf_shoot_5 {w : rf_W} {s : Nat} (hI : rf_I w) (_hs : s < rf_S w) : rf_shoot w s 5 = w 5 := by
  have Ed : rf_Es w (rf_draw w) := ⟨fun _ _ => rf_upd_ne (by omega), fun _ _ _ _ => rf_upd_ne (by omega)⟩
  have Ed2 : rf_Es (rf_draw w) (rf_draw (rf_draw w)) := ⟨fun _ _ => rf_upd_ne (by omega), fun _ _ _ _ => rf_upd_ne (by omega)⟩
  have e1 : rf_draw w 5 = w 5 := rf_upd_ne (by omega)
  have e2 : rf_draw (rf_draw w) 5 = w 5 := (rf_upd_ne (by omega)).trans e1
  rw [rf_shoot]
  by_cases h0 : rf_target w s = 0
  · rw [if_pos h0]
  · rw [if_neg h0]
    obtain ⟨t1, t2⟩ := rf_target_ok (show 0 < rf_target w s by omega)
    by_cases h1 : rf_dr w % 100 < rf_says (rf_draw w) 0 s
    · rw [if_pos h1, rf_hit_5 (rf_I_draw (rf_I_draw hI)) (by rw [Ed2.S, Ed.S]; exact t1) (by rw [rf_kn_draw, rf_kn_draw]; exact t2)]
      exact e2
    · rw [if_neg h1]; exact e1
theorem rf_goon_5 {w : rf_W} : ∀ n, rf_goon w n 5 = w 5
  | 0 => rfl
  | n + 1 => by rw [rf_goon, rf_upd_ne (by omega)]; exact rf_goon_5 n
theorem rf_shs_5 {w : rf_W} {b : Nat} (hI : rf_I w) (h7 : rf_n (w 7) b) (hb : b < 2147483000) : ∀ n, n ≤ rf_S w → rf_shs w n 5 = w 5
  | 0, _ => rfl
  | n + 1, hn => by
    have ih := rf_shs_5 hI h7 hb n (by omega)
    obtain ⟨E, -⟩ := rf_Es_shs hI h7 hb n (by omega)
    obtain ⟨V, -⟩ := rf_shs_ok hI n (by omega)
    rw [rf_shs, rf_shoot_5 V (by rw [E.S]; omega)]; exact ih
theorem rf_rds_5 {w : rf_W} (hI : rf_I w) : ∀ n, n ≤ rf_S w → rf_rds w n 5 = w 5
  | 0, _ => rfl
  | n + 1, hn => by
    have ih := rf_rds_5 hI n (by omega)
    obtain ⟨V, -⟩ := rf_rds_ok hI n (by omega)
    rw [rf_rds]
    split
    · exact ((rf_El_read (s := n) V).1 5 (by omega)).trans ih
    · exact ih
theorem rf_hour_5 {w : rf_W} {b : Nat} (hI : rf_I w) (h7 : rf_n (w 7) b) (hb : b < 2147483000) : rf_hour w 5 = w 5 + nI 1 := by
  have hS : rf_S w < 11 := hI.1.2.1.2
  obtain ⟨E1, B1⟩ := rf_Es_goon hI (rf_S w) (Nat.le_refl _)
  obtain ⟨V1, -⟩ := rf_goon_ok hI (rf_S w) (Nat.le_refl _)
  obtain ⟨E2, B2⟩ := rf_Es_shs V1 (by rw [B1]; exact h7) hb (rf_S w) (by rw [E1.S]; exact Nat.le_refl _)
  obtain ⟨V2, -⟩ := rf_shs_ok V1 (rf_S w) (by rw [E1.S]; exact Nat.le_refl _)
  rw [rf_hour, rf_upd_eq, rf_rds_5 V2 (rf_S w) (by rw [E2.S, E1.S]; exact Nat.le_refl _), rf_shs_5 V1 (by rw [B1]; exact h7) hb (rf_S w) (by rw [E1.S]; exact Nat.le_refl _), rf_goon_5]
theorem rf_hrs_b {w : rf_W} {b c : Nat} (hI : rf_I w) (hL : rf_Lw w) (h7 : rf_n (w 7) b) (h5 : rf_n (w 5) c) (hb : b < 1000000) (hc : c < 1000000) : ∀ n, n ≤ 100 → rf_Es w (rf_hrs w n) ∧ rf_n (rf_hrs w n 7) (b + 10 * n) ∧ rf_n (rf_hrs w n 5) (c + n)
  | 0, _ => ⟨rf_Es.rf, h7, h5⟩
  | n + 1, hn => by
    obtain ⟨E, B7, B5⟩ := rf_hrs_b hI hL h7 h5 hb hc n (by omega)
    obtain ⟨V, P, Lw⟩ := rf_hrs_ok hI hL n
    obtain ⟨E2, B2⟩ := rf_Es_hour V B7 (by omega)
    refine ⟨E.tr E2, by rw [show b + 10 * (n + 1) = b + 10 * n + 10 by omega]; exact B2, ?_⟩
    show rf_n (rf_hour (rf_hrs w n) 5) (c + (n + 1))
    have h2 : rf_nat (rf_hrs w n 5) < c + n := B5.2
    rw [rf_hour_5 V B7 (by omega), B5.1, nI_add]
    exact rf_n_mk (by omega) (by omega)
theorem rf_cb_0 {b : Bool} {k c : Nat} (hk : k ≠ 0) (h : rf_cb b k c = 0) : b = false ∧ c = 0 := by
  cases b with
  | true => exact absurd h hk
  | false => exact ⟨rfl, h⟩
theorem rf_not_f {b : Bool} (h : (!b) = false) : b = true := by cases b with | true => rfl | false => exact absurd h.symm Bool.false_ne_true
theorem cl_G.e {w w' : rf_W} {i : Nat} (g : cl_G w i) (hI : rf_I w') (E : rf_Eq w w') (h7 : rf_n (w' 7) (601 * (i + 1) + 1)) (h5 : rf_n (w' 5) (60 * (i + 1) + 1)) : cl_G w' (i + 1) := ⟨hI, E.L g.2.1, rf_Lk_Eq E g.2.2.1, h7, h5⟩
theorem rf_n_le {x y : Int32} {b c : Nat} (e : x = y) (h : rf_n y b) (hb : b ≤ c) : rf_n x c := by rw [e]; exact ⟨h.1, by have := h.2; omega⟩
theorem cl_G_hours {w : rf_W} {n : Int32} {i : Nat} (hi : i < 512) (g : cl_G w i) (h : rf_c_hours w n = 0) : rf_Es w (rf_hrs w (rf_nat n)) ∧ cl_G (rf_hrs w (rf_nat n)) (i + 1) := by
  obtain ⟨hb, -⟩ := rf_cb_0 (by decide) h
  obtain ⟨⟨nA, mA⟩, lA⟩ := rf_in_n (a := 1) (b := 60) (by decide) (by decide) (rf_not_f hb)
  obtain ⟨E, B7, B5⟩ := rf_hrs_b g.1 g.2.1 g.2.2.2.1 g.2.2.2.2 (by omega) (by omega) (rf_nat n) (by omega)
  obtain ⟨V, P, Lw⟩ := rf_hrs_ok g.1 g.2.1 (rf_nat n)
  exact ⟨E, g.e V P (rf_n_le rfl B7 (by omega)) (rf_n_le rfl B5 (by omega))⟩
theorem cl_G_shoot {w : rf_W} {a b : Int32} {good : Bool} {i : Nat} (hi : i < 512) (g : cl_G w i) (h : rf_c_shoot w a b good = 0) : rf_Es w (rf_hit w (rf_nat a) (rf_nat b) good) ∧ cl_G (rf_hit w (rf_nat a) (rf_nat b) good) (i + 1) := by
  have hS : rf_S w < 11 := g.1.1.2.1.2
  rw [rf_c_shoot] at h
  obtain ⟨h1, h⟩ := rf_cb_0 (by decide) h
  obtain ⟨h2, h⟩ := rf_cb_0 (by decide) h
  obtain ⟨-, h⟩ := rf_cb_0 (by decide) h
  obtain ⟨-, h⟩ := rf_cb_0 (by decide) h
  obtain ⟨-, h⟩ := rf_cb_0 (by decide) h
  obtain ⟨h6, -⟩ := rf_cb_0 (by decide) h
  have nA := rf_okN_n (show rf_S w < 1073741824 by omega) (rf_not_f h1)
  have nB := rf_okN_n (show rf_S w < 1073741824 by omega) (rf_not_f h2)
  have hk : 0 < rf_kn w (rf_nat b) := by have := of_decide_eq_false h6; omega
  obtain ⟨E, e7⟩ := rf_Es_hit (b := rf_nat a) (g := good) g.1 nB.2 hk
  obtain ⟨V, P⟩ := rf_I_hit (b := rf_nat a) (g := good) g.1 nA.2 nB.2 hk
  obtain ⟨-, u2⟩ := rf_n_up g.2.2.2.1 (by omega)
  exact ⟨E, g.e V P (rf_n_le e7 u2 (by omega)) (rf_n_le (rf_hit_5 g.1 nB.2 hk) g.2.2.2.2 (by omega))⟩
theorem cl_G_el {w w' : rf_W} {i : Nat} (g : cl_G w i) (hI : rf_I w') (E : rf_El w w') (P : rf_Eq w w') : rf_Es w w' ∧ cl_G w' (i + 1) := ⟨E.es, g.e hI P (rf_n_le (E.1 7 (by omega)) g.2.2.2.1 (by omega)) (rf_n_le (E.1 5 (by omega)) g.2.2.2.2 (by omega))⟩
theorem cl_G_teach {w : rf_W} {a b m : Int32} {i : Nat} (g : cl_G w i) (h : rf_c_teach w a b m = 0) : rf_Es w (rf_learn w (rf_nat a) (rf_nat m)) ∧ cl_G (rf_learn w (rf_nat a) (rf_nat m)) (i + 1) := by
  have hS : rf_S w < 11 := g.1.1.2.1.2
  have hM : rf_M w < 17 := g.1.1.1.2
  rw [rf_c_teach] at h
  obtain ⟨h1, h⟩ := rf_cb_0 (by decide) h
  obtain ⟨-, h⟩ := rf_cb_0 (by decide) h
  obtain ⟨h3, -⟩ := rf_cb_0 (by decide) h
  have nA := rf_okN_n (show rf_S w < 1073741824 by omega) (rf_not_f h1)
  have nC := rf_okN_n (show rf_M w < 1073741824 by omega) (rf_not_f h3)
  have hA : rf_nat a < rf_S w := nA.2
  exact cl_G_el g (rf_I_learn g.1 nA.2 nC.2) (rf_El_learn (by omega)) (rf_Eq_learn (by omega) (g.1.2.1 _ hA).2.2.2.2.1.2)
theorem cl_G_read {w : rf_W} {s : Int32} {i : Nat} (g : cl_G w i) (_h : rf_c_read w s = 0) : rf_Es w (rf_read w (rf_nat s)).1 ∧ cl_G (rf_read w (rf_nat s)).1 (i + 1) := by
  obtain ⟨V, P, -⟩ := rf_I_read (s := rf_nat s) g.1
  exact cl_G_el g V (rf_El_read g.1) P
theorem rf_remove_o {w : rf_W} {k a : Nat} (hF : rf_F w < 41) (ha : a < 311 ∨ 431 ≤ a) (h6 : a ≠ 6) (hk : k < rf_F w) : rf_remove w k a = w a := by
  rw [rf_remove, rf_upd_ne h6, rf_cp_out (by omega)]
theorem cl_G_gather {w : rf_W} {s k : Int32} {i : Nat} (g : cl_G w i) (h : rf_c_gather w s k = 0) : rf_Es w (rf_remove (rf_learn w (rf_nat s) (rf_nat (rf_fld w (rf_nat k) 0))) (rf_nat k)) ∧ cl_G (rf_remove (rf_learn w (rf_nat s) (rf_nat (rf_fld w (rf_nat k) 0))) (rf_nat k)) (i + 1) := by
  have hS : rf_S w < 11 := g.1.1.2.1.2
  have hF : rf_F w < 41 := g.1.2.2.2.2.1.2.2.1.2
  rw [rf_c_gather] at h
  obtain ⟨h1, h⟩ := rf_cb_0 (by decide) h
  obtain ⟨h2, -⟩ := rf_cb_0 (by decide) h
  have nA := rf_okN_n (show rf_S w < 1073741824 by omega) (rf_not_f h1)
  have nB := rf_okN_n (show rf_F w < 1073741824 by omega) (rf_not_f h2)
  have hA : rf_nat s < rf_S w := nA.2
  have hB : rf_nat k < rf_F w := nB.2
  have hfl := (g.1.2.2.2.2.2.2.1 _ hB).1.2
  have hk13 := (g.1.2.1 _ hA).2.2.2.2.1.2
  have V1 := rf_I_learn (m := rf_nat (rf_fld w (rf_nat k) 0)) g.1 nA.2 hfl
  have E1 := rf_El_learn (w := w) (s := rf_nat s) (m := rf_nat (rf_fld w (rf_nat k) 0)) (by omega)
  have P1 := rf_Eq_learn (w := w) (m := rf_nat (rf_fld w (rf_nat k) 0)) (show rf_nat s < 10 by omega) hk13
  have eF : rf_F (rf_learn w (rf_nat s) (rf_nat (rf_fld w (rf_nat k) 0))) = rf_F w := by rw [rf_F, rf_F, E1.1 6 (by omega)]
  have V2 := rf_I_remove (k := rf_nat k) V1 (by rw [eF]; exact hB)
  have o2 : ∀ a, (a < 311 ∨ 431 ≤ a) → a ≠ 6 → rf_remove (rf_learn w (rf_nat s) (rf_nat (rf_fld w (rf_nat k) 0))) (rf_nat k) a = rf_learn w (rf_nat s) (rf_nat (rf_fld w (rf_nat k) 0)) a := fun a ha h6 => rf_remove_o (by rw [eF]; exact hF) ha h6 (by rw [eF]; exact hB)
  refine ⟨E1.es.tr ⟨fun a ha => o2 a (by omega) (by omega), fun t j ht hj => o2 _ (by omega) (by omega)⟩, g.e V2 ⟨fun a ha => (o2 a (by omega) (by omega)).trans (P1.1 a ha), fun a ha => (o2 a (by omega) (by omega)).trans (P1.2 a ha)⟩ (rf_n_le ((o2 7 (by omega) (by omega)).trans (E1.1 7 (by omega))) g.2.2.2.1 (by omega)) (rf_n_le ((o2 5 (by omega) (by omega)).trans (E1.1 5 (by omega))) g.2.2.2.2 (by omega))⟩
end REL3
