/-! THE LOOP: images, the tape -/
section REL6
theorem cl_R.image {r : am_R} {h h9 c : am_H} {i : Nat} (R : cl_R r h i) (L9 : cl_Lo h9 94 (h 323)) (A9 : cl_La h9 107 (h 323)) (S9 : cl_Sc h9 115 (h 323)) (i9 : (h9 0) 11 = nI 1) (w9 : (h9 0) 12 = (h 0) 12) (K : ∀ j, j ≠ 0 ∧ (j < 94 ∨ 130 ≤ j) → h9 j = h j) (F : ∀ j, j < 322 → c j = h9 j) (e322 : c 322 = upd (upd (h 322) 0 (nI 0)) 6 (nI 1)) (e324 : c 324 = rf_cp (h 324) (h 323) 0 0 1580) (e323 : c 323 = h 323) (e327 : c 327 = h 327) (e328 : c 328 = h 328) : cl_R r c (i + 1) := by
  have f : ∀ j, j < 322 → j ≠ 0 → (j < 94 ∨ 130 ≤ j) → c j = h j := fun j a1 a2 a3 => (F j a1).trans (K j ⟨a2, a3⟩)
  have o9 : ∀ k, k ≠ 0 → k ≠ 6 → (c 322) k = (h 322) k := fun k a b => by rw [e322, rf_upd_ne b, rf_upd_ne a]
  have o6 : (c 322) 6 = nI 1 := by rw [e322]; exact rf_upd_eq
  have E : rf_eD (h 323) (rf_cp (h 324) (h 323) 0 0 1580) := fun a ha => by rw [rf_cp_in (by omega) (by omega)]; exact congrArg (h 323) (by omega)
  obtain ⟨⟨g, L, S, A⟩, ⟨ob, z, by_⟩, ⟨w1, im, img⟩, ps⟩ := id R
  unfold cl_R
  rw [e323, e324, e328, o6, o9 9 (by decide) (by decide), o9 14 (by decide) (by decide), f 1 (by decide) (by decide) (by decide), f 2 (by decide) (by decide) (by decide)]
  refine ⟨⟨g.mono (by omega), cl_Lo_eq (fun j a b => f j (by omega) (by omega) (by omega)) L, cl_Sc_eq (fun j a b => f j (by omega) (by omega) (by omega)) S, cl_La_eq (fun j a b => f j (by omega) (by omega) (by omega)) A⟩, ⟨⟨by rw [o9 9 (by decide) (by decide)]; exact ob.1, by rw [o9 12 (by decide) (by decide)]; exact ob.2⟩, z, by_⟩, ⟨by rw [F 0 (by decide), w9]; exact w1, by rw [F 0 (by decide)]; exact i9, fun _ => ⟨(g.D E).mono (by omega), cl_Lo_L g.1 E.L (cl_Lo_eq (fun j a b => F j (by omega)) L9), cl_Sc_L g.1 E.L (cl_Sc_eq (fun j a b => F j (by omega)) S9), cl_La_D g.2.1 E (cl_La_eq (fun j a b => F j (by omega)) A9)⟩⟩, ?_⟩
  have P := R.psE (c := c) (by rw [e323]; exact rf_Es.rf) (by rw [o9 7 (by decide) (by decide)]; exact ps.1) (by rw [f 132 (by decide) (by decide) (by decide), o9 7 (by decide) (by decide)]; exact ps.2.1.1) (Nat.le_of_eq (by rw [rf_rmd, rf_rmd, o9 7 (by decide) (by decide)])) e327 (fun j a b => f j (by omega) (by omega) (by omega))
  rw [cl_Ps, e323] at P
  exact P
theorem cl_R.back {r : am_R} {h h9 c : am_H} {i : Nat} (R : cl_R r h i) (h6 : (h 322) 6 ≠ 0) (L9 : cl_Lo h9 4 (h 324)) (A9 : cl_La h9 17 (h 324)) (S9 : cl_Sc h9 25 (h 324)) (s9 : (h9 132) 1 = nI 0) (K : ∀ j, j ≠ 132 ∧ (j < 4 ∨ 40 ≤ j) → h9 j = h j) (F : ∀ j, j < 322 → c j = h9 j) (e322 : c 322 = upd (upd (h 322) 0 (nI 0)) 7 (nI 0)) (e323 : c 323 = rf_cp (h 323) (h 324) 0 0 1580) (e324 : c 324 = h 324) (e328 : c 328 = h 328) : cl_R r c (i + 1) := by
  have f : ∀ j, j < 322 → j ≠ 132 → (j < 4 ∨ 40 ≤ j) → c j = h j := fun j a1 a2 a3 => (F j a1).trans (K j ⟨a2, a3⟩)
  have o9 : ∀ k, k ≠ 0 → k ≠ 7 → (c 322) k = (h 322) k := fun k a b => by rw [e322, rf_upd_ne b, rf_upd_ne a]
  have o7 : (c 322) 7 = nI 0 := by rw [e322]; exact rf_upd_eq
  have E : rf_eD (h 324) (rf_cp (h 323) (h 324) 0 0 1580) := fun a ha => by rw [rf_cp_in (by omega) (by omega)]; exact congrArg (h 324) (by omega)
  obtain ⟨⟨g, L, S, A⟩, ⟨ob, z, by_⟩, ⟨w1, im, img⟩, ps⟩ := id R
  obtain ⟨gi, -, -, -⟩ := img h6
  refine R.to ?_ ⟨⟨by rw [o9 9 (by decide) (by decide)]; exact ob.1, by rw [o9 12 (by decide) (by decide)]; exact ob.2⟩, by rw [f 1 (by decide) (by decide) (by decide), o9 9 (by decide) (by decide)]; exact z, by rw [f 2 (by decide) (by decide) (by decide), e328, o9 9 (by decide) (by decide)]; exact by_⟩ (by rw [f 0 (by decide) (by decide) (by decide), o9 14 (by decide) (by decide)]; exact w1) (by rw [f 0 (by decide) (by decide) (by decide), o9 6 (by decide) (by decide)]; exact im) (o9 6 (by decide) (by decide)) e324 (fun j a b => f j (by omega) (by omega) (by omega)) (R.ps0 o7 (by rw [F 132 (by decide)]; exact s9))
  rw [e323]
  exact ⟨(gi.D E).mono (by omega), cl_Lo_L gi.1 E.L (cl_Lo_eq (fun j a b => F j (by omega)) L9), cl_Sc_L gi.1 E.L (cl_Sc_eq (fun j a b => F j (by omega)) S9), cl_La_D gi.2.1 E (cl_La_eq (fun j a b => F j (by omega)) A9)⟩
/-- the tape is another, all else as it was -/
theorem cl_R.tape {r : am_R} {h h9 c : am_H} {i : Nat} (R : cl_R r h i) (K : ∀ j, j ≠ 1 → j ≠ 2 → h9 j = h j) (F : ∀ j, j < 322 → c j = h9 j) (T9 : rf_n ((c 322) 9) 401) (z9 : (h9 1) 1 = (c 322) 9) (b9 : cl_by (h9 2) (c 328) (rf_nat ((c 322) 9))) (o9 : ∀ k, k ≠ 0 → k ≠ 9 → (c 322) k = (h 322) k) (e323 : c 323 = h 323) (e324 : c 324 = h 324) (e327 : c 327 = h 327) : cl_R r c (i + 1) := by
  have f : ∀ j, j < 322 → j ≠ 1 → j ≠ 2 → c j = h j := fun j a1 a2 a3 => (F j a1).trans (K j a2 a3)
  obtain ⟨⟨g, L, S, A⟩, ⟨ob, z, by_⟩, ⟨w1, im, img⟩, ps⟩ := id R
  refine R.to ?_ ⟨⟨T9, by rw [o9 12 (by decide) (by decide)]; exact ob.2⟩, by rw [F 1 (by decide)]; exact z9, by rw [F 2 (by decide)]; exact b9⟩ (by rw [f 0 (by decide) (by decide) (by decide), o9 14 (by decide) (by decide)]; exact w1) (by rw [f 0 (by decide) (by decide) (by decide), o9 6 (by decide) (by decide)]; exact im) (o9 6 (by decide) (by decide)) e324 (fun j a b => f j (by omega) (by omega) (by omega)) (R.psE (by rw [e323]; exact rf_Es.rf) (by rw [o9 7 (by decide) (by decide)]; exact ps.1) (by rw [f 132 (by decide) (by decide) (by decide), o9 7 (by decide) (by decide)]; exact ps.2.1.1) (Nat.le_of_eq (by rw [rf_rmd, rf_rmd, o9 7 (by decide) (by decide)])) e327 (fun j a b => f j (by omega) (by omega) (by omega)))
  rw [e323]
  exact ⟨g.mono (by omega), cl_Lo_eq (fun j a b => f j (by omega) (by omega) (by omega)) L, cl_Sc_eq (fun j a b => f j (by omega) (by omega) (by omega)) S, cl_La_eq (fun j a b => f j (by omega) (by omega) (by omega)) A⟩
theorem cl_R.end_ {r : am_R} {h h9 c : am_H} {i : Nat} {n : Int32} (R : cl_R r h i) (P : h9 = if (rf_end (h 322) n).1 = true then am_row h 1 (upd (h 1) 1 n) else h) (F : ∀ j, j < 322 → c j = h9 j) (e322 : c 322 = (rf_end (h 322) n).2) (e323 : c 323 = h 323) (e324 : c 324 = h 324) (e327 : c 327 = h 327) (e328 : c 328 = h 328) : cl_R r c (i + 1) := by
  have ob := R.2.1.1.1
  have hob : rf_nat ((h 322) 9) < 401 := ob.2
  by_cases q1 : n < 0
  · rw [rf_end, if_pos q1] at P e322
    have P : h9 = h := by rw [P, if_neg Bool.false_ne_true]
    have e322 : c 322 = upd (h 322) 0 (nI 0) := e322
    have o9 : ∀ k, k ≠ 0 → (c 322) k = (h 322) k := fun k a => by rw [e322, rf_upd_ne a]
    exact R.tape (h9 := h9) (fun j _ _ => by rw [P]) F (by rw [o9 9 (by decide)]; exact ob) (by rw [P, o9 9 (by decide)]; exact R.2.1.2.1) (by rw [P, o9 9 (by decide), e328]; exact R.2.1.2.2) (fun k a _ => o9 k a) e323 e324 e327
  · by_cases q2 : n ≤ (h 322) 9
    · rw [rf_end, if_neg q1, if_pos q2] at P e322
      have P : h9 = am_row h 1 (upd (h 1) 1 n) := by rw [P, if_pos rfl]
      have e322 : c 322 = upd (upd (h 322) 0 (nI 0)) 9 n := e322
      obtain ⟨j, hj, rfl⟩ := nI_of q1
      rw [ob.1, nI_leI hj (by omega)] at q2
      have c9 : (c 322) 9 = nI j := by rw [e322, rf_upd_eq]
      exact R.tape (h9 := h9) (fun j a _ => by rw [P, am_row_ne _ _ _ a]) F (by rw [c9]; exact rf_n_mk (by omega) (by omega)) (by rw [P, am_row_at, rf_upd_eq, c9]) (by rw [P, am_row_ne _ _ _ (by decide), c9, e328, rf_nat_nI (by omega)]; exact fun k hk => R.2.1.2.2 k (by omega)) (fun k a b => by rw [e322, rf_upd_ne b, rf_upd_ne a]) e323 e324 e327
    · rw [rf_end, if_neg q1, if_neg q2] at P e322
      have P : h9 = h := by rw [P, if_neg Bool.false_ne_true]
      have e322 : c 322 = upd (h 322) 0 (nI 0) := e322
      have o9 : ∀ k, k ≠ 0 → (c 322) k = (h 322) k := fun k a => by rw [e322, rf_upd_ne a]
      exact R.tape (h9 := h9) (fun j _ _ => by rw [P]) F (by rw [o9 9 (by decide)]; exact ob) (by rw [P, o9 9 (by decide)]; exact R.2.1.2.1) (by rw [P, o9 9 (by decide), e328]; exact R.2.1.2.2) (fun k a _ => o9 k a) e323 e324 e327
end REL6
