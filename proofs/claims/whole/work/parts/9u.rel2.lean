/-! THE LOOP: acts -/
section REL2
theorem rf_act_hi {w w' a : rf_W} {k : Nat} (E : ∀ c, 731 ≤ c → w' c = w c) : rf_act w' a k = rf_act w a k := by
  funext x
  rw [rf_act, rf_act, rf_cp, rf_cp]
  split
  · rfl
  · exact E x (by omega)
theorem rf_Es.symm {w w' : rf_W} (h : rf_Es w w') : rf_Es w' w := ⟨fun a ha => (h.1 a ha).symm, fun s k a b => (h.2 s k a b).symm⟩
theorem rf_rmd_rem {o : rf_W} (hn : rf_n (o 7) 13) : rf_n ((rf_remO o) 7) 13 ∧ (rf_rmd o = 12 ∧ rf_rmd (rf_remO o) = 12 ∨ rf_rmd o < 12 ∧ rf_rmd (rf_remO o) = rf_rmd o + 1) := by
  have h2 : rf_rmd o < 13 := hn.2
  rw [rf_remO]
  by_cases h : rf_rmd o = 12
  · rw [if_pos h]; exact ⟨hn, Or.inl ⟨h, h⟩⟩
  · rw [if_neg h]
    exact ⟨by rw [rf_upd_eq]; exact rf_n_mk (by omega) (by omega), Or.inr ⟨by omega, by rw [rf_rmd, rf_upd_eq, rf_nat_nI (by omega)]⟩⟩
theorem rf_act_rem {o w a : rf_W} {k : Nat} (hn : rf_n (o 7) 13) (hk : k < rf_rmd (rf_remO o)) : rf_act w (rf_remA o w a) k = w ∨ ∃ k', k' < rf_rmd o ∧ rf_act w (rf_remA o w a) k = rf_act w a k' := by
  rcases (rf_rmd_rem hn).2 with ⟨h1, h2⟩ | ⟨h1, h2⟩
  · rw [rf_remA, if_pos h1]
    by_cases e : k = 11
    · subst e
      exact Or.inl (rf_act_new (a := w) (fun x hx => by rw [rf_cp_in (by omega) (by omega)]; exact congrArg w (by omega)))
    · exact Or.inr ⟨k + 1, by omega, rf_act_congr (fun x hx => by rw [rf_cp_out (Or.inl (by omega)), rf_cp_in (by omega) (by omega)]; exact congrArg a (by omega))⟩
  · rw [rf_remA, if_neg (by omega)]
    by_cases e : k = rf_rmd o
    · subst e
      exact Or.inl (rf_act_new (a := w) (fun x hx => by rw [rf_cp_in (by omega) (by omega)]; exact congrArg w (by omega)))
    · exact Or.inr ⟨k, by omega, rf_act_congr (fun x hx => by rw [rf_cp_out (Or.inl (by omega))])⟩
theorem rf_oc_7 {o : rf_W} {c : Nat} : (rf_oc o c) 7 = o 7 := rf_upd_ne (by decide)
theorem rf_remO_o {o : rf_W} {c : Nat} : ∀ k, k ≠ 0 → (rf_remO (rf_oc o c)) k = (rf_remO o) k := fun k hk => by
  rw [rf_remO, rf_remO, rf_rmd, rf_rmd, rf_oc_7]
  split
  · exact rf_upd_ne hk
  · by_cases e : k = 7
    · subst e; rw [rf_upd_eq, rf_upd_eq]
    · rw [rf_upd_ne e, rf_upd_ne e]; exact rf_upd_ne hk
theorem rf_remA_o {o w a : rf_W} {c : Nat} : rf_remA (rf_oc o c) w a = rf_remA o w a := by rw [rf_remA, rf_remA, rf_rmd, rf_rmd, rf_oc_7]
theorem rf_remO_k {o : rf_W} {k : Nat} (hk : k ≠ 7) : (rf_remO o) k = o k := by
  rw [rf_remO]
  split
  · rfl
  · exact rf_upd_ne hk
theorem cl_R.act {r r9 : am_R} {h h9 c : am_H} {i cc : Nat} {w' : rf_W} (R : cl_R r h i) (P : cl_act r h cc (h 322) (h 323) w' (h 327) r9 h9) (hw : cc = 0 → rf_Es (h 323) w' ∧ cl_G w' (i + 1)) (hR : am_rs r)
    (F : ∀ j, j < 322 → c j = h9 j) (e322 : c 322 = rf_gw cc (rf_remO (rf_oc (h 322) 0)) (rf_oc (h 322) cc)) (e327 : c 327 = rf_gw cc (rf_remA (rf_oc (h 322) 0) (h 323) (h 327)) (h 327)) (e323 : c 323 = rf_gw cc w' (h 323)) (e324 : c 324 = h 324) (e328 : c 328 = h 328) : am_rs r9 ∧ cl_R r9 c (i + 1) := by
  by_cases h0 : cc = 0
  · obtain ⟨hR9, S9, P9, F9⟩ := P.1 h0
    obtain ⟨E, G'⟩ := hw h0
    obtain ⟨⟨g, L, S, A⟩, ⟨ob, z, by_⟩, ⟨w1, im, img⟩, ⟨n7, pa, acts⟩⟩ := R
    rw [h0, rf_gw, if_pos rfl] at e322 e323
    rw [h0, rf_gw, if_pos rfl, rf_remA_o] at e327
    have f : ∀ j, (j < 23 ∨ 93 ≤ j) → j ≠ 130 → j < 132 → c j = h j := fun j a1 a2 a3 => (F j (by omega)).trans (F9 j ⟨a1, a2, by omega, by omega⟩)
    have hE : ∀ x, 731 ≤ x → w' x = (h 323) x := fun x hx => E.1 x (by omega)
    have o9 : ∀ k, k ≠ 0 → k ≠ 7 → (c 322) k = (h 322) k := fun k a b => by rw [e322, rf_remO_o k a, rf_remO_k b]
    have o7 : (c 322) 7 = (rf_remO (h 322)) 7 := by rw [e322]; exact rf_remO_o 7 (by decide)
    have er : rf_rmd (c 322) = rf_rmd (rf_remO (h 322)) := by rw [rf_rmd, rf_rmd, o7]
    refine ⟨hR9, ?_⟩
    unfold cl_R
    rw [e323, e324, e327, e328, f 0 (by decide) (by decide) (by decide), f 1 (by decide) (by decide) (by decide), f 2 (by decide) (by decide) (by decide), er, o9 9 (by decide) (by decide), o9 14 (by decide) (by decide), o9 6 (by decide) (by decide), o7]
    have hlo : cl_Lo c 4 (h 323) := cl_Lo_eq (fun j a b => f j (by omega) (by omega) (by omega)) L
    refine ⟨⟨G', cl_Lo_Es g.1 E hlo, cl_Sc_eq (fun j a b => F j (by omega)) S9, cl_La_Es E (cl_La_eq (fun j a b => f j (by omega) (by omega) (by omega)) A)⟩, ⟨⟨by rw [o9 9 (by decide) (by decide)]; exact ob.1, by rw [o9 12 (by decide) (by decide)]; exact ob.2⟩, z, by_⟩, ⟨w1, im, fun h6 => ?_⟩, ⟨(rf_rmd_rem n7).1, ?_, fun k hk => ?_⟩⟩
    · obtain ⟨g', L', S', A'⟩ := img h6
      exact ⟨g'.mono (by omega), cl_Lo_eq (fun j a b => f j (by omega) (by omega) (by omega)) L', cl_Sc_eq (fun j a b => f j (by omega) (by omega) (by omega)) S', cl_La_eq (fun j a b => f j (by omega) (by omega) (by omega)) A'⟩
    · obtain ⟨p1, q, p2, p3⟩ := P9
      refine ⟨by rw [F 132 (by decide), o7]; exact p1, q, p2, fun k hk => ?_⟩
      rw [er] at hk
      have hm : (k + q) % 12 < 12 := Nat.mod_lt _ (by decide)
      rw [rf_act_hi hE]
      exact cl_Sc_eq (fun j a b => F j (by omega)) (p3 k hk)
    · rw [rf_act_hi hE]
      rcases rf_act_rem (w := h 323) (a := h 327) n7 hk with e | ⟨k', hk', e⟩
      · rw [e]; exact ⟨E.symm, g.mono (by omega)⟩
      · rw [e]; exact ⟨E.symm.tr (acts k' hk').1, (acts k' hk').2.mono (by omega)⟩
  · obtain ⟨rfl, F9⟩ := P.2 h0
    rw [rf_gw, if_neg h0] at e322 e323 e327
    refine ⟨hR, R.k (fun j a1 a2 a3 a4 a5 a6 a7 a8 => ?_) (fun k hk => by rw [e322]; exact rf_upd_ne hk)⟩
    rcases Nat.lt_or_ge j 322 with q | q
    · exact (F j q).trans (F9 j ⟨a1, a2, a3, a4, by omega⟩)
    · rcases (show j = 323 ∨ j = 324 ∨ j = 327 ∨ j = 328 by omega) with rfl | rfl | rfl | rfl
      · exact e323
      · exact e324
      · exact e327
      · exact e328
end REL2
