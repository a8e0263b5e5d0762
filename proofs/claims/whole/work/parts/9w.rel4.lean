/-! THE LOOP: what else changes the state -/
section REL4
/-- what is remembered stands well -/
def cl_Ps (r : am_R) (c : am_H) (i : Nat) : Prop := rf_n ((c 322) 7) 13 ∧ cl_Pa r c (c 322) (c 323) (c 327) ∧ ∀ k, k < rf_rmd (c 322) → rf_Es (c 323) (rf_act (c 323) (c 327) k) ∧ cl_G (rf_act (c 323) (c 327) k) i
theorem cl_R.to {r : am_R} {h c : am_H} {i : Nat} (R : cl_R r h i) (W : cl_G (c 323) (i + 1) ∧ cl_Lo c 4 (c 323) ∧ cl_Sc c 25 (c 323) ∧ cl_La c 17 (c 323)) (T : rf_Ob (c 322) ∧ (c 1) 1 = (c 322) 9 ∧ cl_by (c 2) (c 328) (rf_nat ((c 322) 9))) (w1 : (c 0) 12 = (c 322) 14) (im : (c 0) 11 = (c 322) 6) (e6 : (c 322) 6 = (h 322) 6) (e324 : c 324 = h 324) (Fi : ∀ j, 94 ≤ j → j < 130 → c j = h j) (P : cl_Ps r c (i + 1)) : cl_R r c (i + 1) := by
  refine ⟨W, T, ⟨w1, im, fun h6 => ?_⟩, P⟩
  rw [e6] at h6
  obtain ⟨g', L', S', A'⟩ := R.2.2.1.2.2 h6
  rw [e324]
  exact ⟨g'.mono (by omega), cl_Lo_eq (fun j a b => Fi j (by omega) (by omega)) L', cl_Sc_eq (fun j a b => Fi j (by omega) (by omega)) S', cl_La_eq (fun j a b => Fi j (by omega) (by omega)) A'⟩
theorem cl_R.ps0 {r : am_R} {h c : am_H} {i j : Nat} (R : cl_R r h i) (o7 : (c 322) 7 = nI 0) (s : (c 132) 1 = nI 0) : cl_Ps r c j := by
  obtain ⟨p1, q, p2, p3⟩ := R.2.2.2.2.1
  have hr : rf_rmd (c 322) = 0 := by rw [rf_rmd, o7, rf_nat_nI (by decide)]
  exact ⟨by rw [o7]; exact rf_n_mk (by decide) (by decide), ⟨s.trans o7.symm, q, p2, fun k hk => absurd hk (by omega)⟩, fun k hk => absurd hk (by omega)⟩
theorem cl_R.psE {r : am_R} {h c : am_H} {i : Nat} (R : cl_R r h i) (E : rf_Es (h 323) (c 323)) (o7 : rf_n ((c 322) 7) 13) (s : (c 132) 1 = (c 322) 7) (hle : rf_rmd (c 322) ≤ rf_rmd (h 322)) (e327 : c 327 = h 327) (F : ∀ j, 134 ≤ j → j < 314 → c j = h j) : cl_Ps r c (i + 1) := by
  obtain ⟨p1, q, p2, p3⟩ := R.2.2.2.2.1
  have hE : ∀ x, 731 ≤ x → (c 323) x = (h 323) x := fun x hx => E.1 x (by omega)
  refine ⟨o7, ⟨s, q, p2, fun k hk => ?_⟩, fun k hk => ?_⟩
  · have hm : (k + q) % 12 < 12 := Nat.mod_lt _ (by decide)
    rw [e327, rf_act_hi hE]
    exact cl_Sc_eq (fun j a b => F j (by omega) (by omega)) (p3 k (by omega))
  · rw [e327, rf_act_hi hE]
    obtain ⟨a, b⟩ := R.2.2.2.2.2 k (by omega)
    exact ⟨E.symm.tr a, b.mono (by omega)⟩
/-- a world that only the drafts of the reference tell from the old one -/
theorem cl_R.psD {r : am_R} {h c : am_H} {i : Nat} (R : cl_R r h i) (E : rf_eD (h 323) (c 323)) (o7 : (c 322) 7 = (h 322) 7) (s : (c 132) 1 = (h 132) 1) (e327 : c 327 = h 327) (F : ∀ j, 134 ≤ j → j < 314 → c j = h j) : cl_Ps r c (i + 1) := by
  obtain ⟨p1, q, p2, p3⟩ := R.2.2.2.2.1
  have er : rf_rmd (c 322) = rf_rmd (h 322) := by rw [rf_rmd, rf_rmd, o7]
  have ea : ∀ k, rf_eD (rf_act (h 323) (h 327) k) (rf_act (c 323) (h 327) k) := fun k x hx => by
    rw [rf_act, rf_act, rf_cp, rf_cp]
    split
    · rfl
    · exact E x hx
  refine ⟨by rw [o7]; exact R.2.2.2.1, ⟨by rw [s, o7]; exact p1, q, p2, fun k hk => ?_⟩, fun k hk => ?_⟩
  · rw [er] at hk
    have hm : (k + q) % 12 < 12 := Nat.mod_lt _ (by decide)
    obtain ⟨a, b⟩ := R.2.2.2.2.2 k hk
    rw [e327]
    exact cl_Sc_L b.1 (ea k).L (cl_Sc_eq (fun j x y => F j (by omega) (by omega)) (p3 k hk))
  · rw [er] at hk
    obtain ⟨a, b⟩ := R.2.2.2.2.2 k hk
    rw [e327]
    refine ⟨⟨fun x hx => ?_, fun t j ht hj => ?_⟩, (b.D (ea k)).mono (by omega)⟩
    · by_cases h7 : x < 731
      · rw [ea k x (by omega), a.1 x hx, E x (by omega)]
      · rw [rf_act, rf_cp_out (Or.inr (by omega))]
    · show rf_act (c 323) (h 327) k (61 + 23 * t + j) = (c 323) (61 + 23 * t + j)
      rw [ea k _ (by omega), E _ (by omega)]; exact a.2 t j ht hj
theorem cl_R.matches {r : am_R} {h h9 c : am_H} {i cc : Nat} (R : cl_R r h i) (z9 : (h9 1) 1 = nI 0) (K : cl_k1 h h9) (F : ∀ j, j < 322 → c j = h9 j) (e322 : c 322 = upd (rf_uses (h 322)) 0 (nI cc)) (e323 : c 323 = h 323) (e324 : c 324 = h 324) (e327 : c 327 = h 327) : cl_R r c (i + 1) := by
  have f : ∀ j, j ≠ 1 → (j < 23 ∨ 25 ≤ j) → (j < 40 ∨ 93 ≤ j) → j ≠ 130 → j < 314 → c j = h j := fun j a1 a2 a3 a4 a5 => (F j (by omega)).trans (K j ⟨a1, a2, a3, a4, by omega, by omega⟩)
  have o9 : ∀ k, k ≠ 0 → k ≠ 9 → k ≠ 10 → k ≠ 11 → (c 322) k = (h 322) k := fun k a b d e => by rw [e322, rf_upd_ne a, rf_uses, rf_upd_ne d, rf_upd_ne b, rf_upd_ne e, rf_upd_ne a]
  have o09 : (c 322) 9 = nI 0 := by rw [e322, rf_upd_ne (by decide), rf_uses, rf_upd_ne (by decide), rf_upd_eq]
  obtain ⟨⟨g, L, S, A⟩, ⟨ob, z, by_⟩, ⟨w1, im, img⟩, ps⟩ := id R
  refine R.to ?_ ⟨⟨by rw [o09]; exact rf_n_mk (by decide) (by decide), by rw [o9 12 (by decide) (by decide) (by decide) (by decide)]; exact ob.2⟩, by rw [F 1 (by decide), z9, o09], fun k hk => by rw [o09, rf_nat_nI (by decide)] at hk; exact absurd hk (by omega)⟩ (by rw [f 0 (by decide) (by decide) (by decide) (by decide) (by decide), o9 14 (by decide) (by decide) (by decide) (by decide)]; exact w1) (by rw [f 0 (by decide) (by decide) (by decide) (by decide) (by decide), o9 6 (by decide) (by decide) (by decide) (by decide)]; exact im) (o9 6 (by decide) (by decide) (by decide) (by decide)) e324 (fun j a b => f j (by omega) (by omega) (by omega) (by omega) (by omega)) (R.psE (by rw [e323]; exact rf_Es.rf) (by rw [o9 7 (by decide) (by decide) (by decide) (by decide)]; exact ps.1) (by rw [f 132 (by decide) (by decide) (by decide) (by decide) (by decide), o9 7 (by decide) (by decide) (by decide) (by decide)]; exact ps.2.1.1) (Nat.le_of_eq (by rw [rf_rmd, rf_rmd, o9 7 (by decide) (by decide) (by decide) (by decide)])) e327 (fun j a b => f j (by omega) (by omega) (by omega) (by omega) (by omega)))
  rw [e323]
  exact ⟨g.mono (by omega), cl_Lo_eq (fun j a b => f j (by omega) (by omega) (by omega) (by omega) (by omega)) L, cl_Sc_eq (fun j a b => f j (by omega) (by omega) (by omega) (by omega) (by omega)) S, cl_La_eq (fun j a b => f j (by omega) (by omega) (by omega) (by omega) (by omega)) A⟩
/-- a scene in the place of the scene: undone, or another seed -/
theorem cl_R.scene {r : am_R} {h h9 c : am_H} {i : Nat} {w' : rf_W} (R : cl_R r h i) (E : rf_Es (h 323) w') (G' : cl_G w' (i + 1)) (S9 : cl_Sc h9 25 w') (K : ∀ j, (j < 25 ∨ 40 ≤ j) ∧ j ≠ 132 → h9 j = h j) (F : ∀ j, j < 322 → c j = h9 j) (e323 : c 323 = w') (e324 : c 324 = h 324) (e327 : c 327 = h 327) (e328 : c 328 = h 328) (o9 : ∀ k, k ≠ 0 → k ≠ 7 → (c 322) k = (h 322) k) (o7 : rf_n ((c 322) 7) 13) (s : (h9 132) 1 = (c 322) 7) (hle : rf_rmd (c 322) ≤ rf_rmd (h 322)) : cl_R r c (i + 1) := by
  have f : ∀ j, j < 322 → (j < 25 ∨ 40 ≤ j) → j ≠ 132 → c j = h j := fun j a1 a2 a3 => (F j a1).trans (K j ⟨a2, a3⟩)
  obtain ⟨⟨g, L, S, A⟩, ⟨ob, z, by_⟩, ⟨w1, im, img⟩, ps⟩ := id R
  refine R.to ?_ ⟨⟨by rw [o9 9 (by decide) (by decide)]; exact ob.1, by rw [o9 12 (by decide) (by decide)]; exact ob.2⟩, by rw [f 1 (by decide) (by decide) (by decide), o9 9 (by decide) (by decide)]; exact z, by rw [f 2 (by decide) (by decide) (by decide), e328, o9 9 (by decide) (by decide)]; exact by_⟩ (by rw [f 0 (by decide) (by decide) (by decide), o9 14 (by decide) (by decide)]; exact w1) (by rw [f 0 (by decide) (by decide) (by decide), o9 6 (by decide) (by decide)]; exact im) (o9 6 (by decide) (by decide)) e324 (fun j a b => f j (by omega) (by omega) (by omega)) (R.psE (by rw [e323]; exact E) o7 (by rw [F 132 (by decide)]; exact s) hle e327 (fun j a b => f j (by omega) (by omega) (by omega)))
  rw [e323]
  exact ⟨G', cl_Lo_Es g.1 E (cl_Lo_eq (fun j a b => f j (by omega) (by omega) (by omega)) L), cl_Sc_eq (fun j a b => F j (by omega)) S9, cl_La_Es E (cl_La_eq (fun j a b => f j (by omega) (by omega) (by omega)) A)⟩
theorem cl_R.seed {r : am_R} {h h9 c : am_H} {i : Nat} {n : Int32} (R : cl_R r h i) (S9 : cl_Sc h9 25 (upd (h 323) 10 n)) (K : cl_fr h h9 25 1) (F : ∀ j, j < 322 → c j = h9 j) (e322 : c 322 = upd (h 322) 0 (nI 0)) (e323 : c 323 = upd (h 323) 10 n) (e324 : c 324 = h 324) (e327 : c 327 = h 327) (e328 : c 328 = h 328) : cl_R r c (i + 1) := by
  have o9 : ∀ k, k ≠ 0 → (c 322) k = (h 322) k := fun k a => by rw [e322]; exact rf_upd_ne a
  have g := R.1.1
  have E : rf_Es (h 323) (upd (h 323) 10 n) := ⟨fun a ha => rf_upd_ne (by omega), fun t k9 ht hk => rf_upd_ne (by omega)⟩
  have P : rf_Eq (h 323) (upd (h 323) 10 n) := ⟨fun a ha => rf_upd_ne (by omega), fun a ha => rf_upd_ne (by omega)⟩
  exact R.scene E (g.e (rf_I_seed g.1) P (rf_n_le (rf_upd_ne (by decide)) g.2.2.2.1 (by omega)) (rf_n_le (rf_upd_ne (by decide)) g.2.2.2.2 (by omega))) S9 (fun j hj => K j (by omega)) F e323 e324 e327 e328 (fun k a _ => o9 k a) (by rw [o9 7 (by decide)]; exact R.2.2.2.1) (by rw [K 132 (by omega), o9 7 (by decide)]; exact R.2.2.2.2.1.1) (Nat.le_of_eq (by rw [rf_rmd, rf_rmd, o9 7 (by decide)]))
theorem cl_R.undo {r : am_R} {h h9 c : am_H} {i : Nat} (R : cl_R r h i) (hn : 0 < rf_rmd (h 322)) (S9 : cl_Sc h9 25 (rf_act (h 323) (h 327) (rf_rmd (h 322) - 1))) (s9 : (h9 132) 1 = nI (rf_rmd (h 322) - 1)) (K : ∀ j, (j < 25 ∨ 40 ≤ j) ∧ j ≠ 132 → h9 j = h j) (F : ∀ j, j < 322 → c j = h9 j) (e322 : c 322 = upd (upd (h 322) 0 (nI 0)) 7 (nI (rf_rmd (h 322) - 1))) (e323 : c 323 = rf_act (h 323) (h 327) (rf_rmd (h 322) - 1)) (e324 : c 324 = h 324) (e327 : c 327 = h 327) (e328 : c 328 = h 328) : cl_R r c (i + 1) := by
  have h13 : rf_rmd (h 322) < 13 := R.2.2.2.1.2
  have o9 : ∀ k, k ≠ 0 → k ≠ 7 → (c 322) k = (h 322) k := fun k a b => by rw [e322, rf_upd_ne b, rf_upd_ne a]
  have o7 : (c 322) 7 = nI (rf_rmd (h 322) - 1) := by rw [e322]; exact rf_upd_eq
  obtain ⟨E, G'⟩ := R.2.2.2.2.2 (rf_rmd (h 322) - 1) (by omega)
  exact R.scene E (G'.mono (by omega)) S9 K F e323 e324 e327 e328 o9 (by rw [o7]; exact rf_n_mk (by omega) (by omega)) (by rw [s9, o7]) (by rw [rf_rmd, o7, rf_nat_nI (by omega)]; omega)
end REL4
