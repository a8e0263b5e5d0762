/-! the law that stands behind law() -/
section LAW5
theorem rf_I_lo {w w' : rf_W} (hI : rf_I w) (h : ∀ a, a < 731 → a ≠ 4 → w' a = w a) (h4 : rf_n (w' 4) 2) : rf_I w' := by
  obtain ⟨hC, hs, hm, ho, ⟨x3, -, x6, x9⟩, ⟨p1, p2⟩, hf, hl⟩ := hI
  have bM : rf_M w < 17 := hC.1.2
  have bS : rf_S w < 11 := hC.2.1.2
  have bO : rf_O w < 11 := hC.2.2.2
  have bF : rf_F w < 41 := x6.2
  have bG : rf_G w < 61 := x9.2
  have eM : rf_M w' = rf_M w := by rw [rf_M, rf_M, h 0 (by omega) (by omega)]
  have eS : rf_S w' = rf_S w := by rw [rf_S, rf_S, h 1 (by omega) (by omega)]
  have eO : rf_O w' = rf_O w := by rw [rf_O, rf_O, h 2 (by omega) (by omega)]
  have eF : rf_F w' = rf_F w := by rw [rf_F, rf_F, h 6 (by omega) (by omega)]
  have eG : rf_G w' = rf_G w := by rw [rf_G, rf_G, h 9 (by omega) (by omega)]
  refine ⟨rf_Cn_congr (fun a ha => h a (by omega) (by omega)) hC, fun s hs' => ?_, fun m hm' => ?_, fun o ho' => ?_, ⟨rf_n_congr (h 3 (by omega) (by omega)) x3, h4, rf_n_congr (h 6 (by omega) (by omega)) x6, rf_n_congr (h 9 (by omega) (by omega)) x9⟩, ⟨?_, ?_⟩, fun f hf' => ?_, fun a ha' => ?_⟩
  · rw [eS] at hs'
    exact rf_Is_congr (fun k hk => h _ (by omega) (by omega)) eM (hs s hs')
  · rw [eM] at hm'
    obtain ⟨a1, a2, a3⟩ := hm m hm'
    exact ⟨rf_n_congr (h _ (by omega) (by omega)) a1, by rw [rf_mem, h _ (by omega) (by omega)]; exact a2, by rw [rf_mem, h _ (by omega) (by omega), eM]; exact a3⟩
  · rw [eO] at ho'
    obtain ⟨a1, a2⟩ := ho o ho'
    exact ⟨by rw [eS]; exact rf_n_congr (h _ (by omega) (by omega)) a1, by rw [rf_ord, h _ (by omega) (by omega), eM]; exact a2⟩
  · rw [h 11 (by omega) (by omega), eM]; exact p1
  · rw [h 12 (by omega) (by omega), eM]; exact p2
  · rw [eF] at hf'
    obtain ⟨a1, a2, a3⟩ := hf f hf'
    exact ⟨by rw [eM]; exact rf_n_congr (h _ (by omega) (by omega)) a1, rf_n_congr (h _ (by omega) (by omega)) a2, by rw [eS]; exact rf_n_congr (h _ (by omega) (by omega)) a3⟩
  · rw [eG] at ha'
    obtain ⟨a1, a2, a3⟩ := hl a ha'
    exact ⟨by rw [eS]; exact rf_n_congr (h _ (by omega) (by omega)) a1, by rw [eS]; exact rf_n_congr (h _ (by omega) (by omega)) a2, by rw [eM]; exact rf_n_congr (h _ (by omega) (by omega)) a3⟩
theorem rf_lawW_4 {w : rf_W} {N : Nat} : rf_lawW w N 4 = nI 1 := rf_upd_eq
theorem rf_lawW_lo {w : rf_W} {N c : Nat} (h : c < 731) (h4 : c ≠ 4) : rf_lawW w N c = w c := by rw [rf_lawW, rf_upd_ne h4, rf_cp_out (Or.inl h), rf_upd_ne (by omega)]
theorem rf_lawW_731 {w : rf_W} {N : Nat} : rf_lawW w N 731 = am_oi N := by rw [rf_lawW, rf_upd_ne (by decide), rf_cp_in (by decide) (by decide)]; exact rf_upd_eq
theorem rf_lawW_in {w : rf_W} {N x : Nat} (h0 : 0 < x) (hx : x < 849) : rf_lawW w N (731 + x) = w (1580 + x) := by
  rw [rf_lawW, rf_upd_ne (by omega), rf_cp_in (by omega) (by omega), show 1580 + (731 + x - 731) = 1580 + x by omega, rf_upd_ne (by omega)]
theorem rf_lawW_l {w : rf_W} {N m k : Nat} (hm : m < 12) (hk : k < 4) : rf_lawW w N (732 + 4 * m + k) = w (1581 + 4 * m + k) := by
  rw [show 732 + 4 * m + k = 731 + (1 + 4 * m + k) by omega, rf_lawW_in (by omega) (by omega), show 1580 + (1 + 4 * m + k) = 1581 + 4 * m + k by omega]
theorem rf_lawW_s {w : rf_W} {N i k : Nat} (hi : i < 400) (hk : k < 2) : rf_lawW w N (780 + 2 * i + k) = rf_sh w (780 + 2 * i + k) := by
  rw [show 780 + 2 * i + k = 731 + (49 + 2 * i + k) by omega, rf_lawW_in (by omega) (by omega), rf_sh, show 1580 + (49 + 2 * i + k) = 731 + (49 + 2 * i + k) + 849 by omega]
theorem rf_I_lawW {w : rf_W} {N : Nat} (hI : rf_I w) : rf_I (rf_lawW w N) := rf_I_lo hI (fun a h1 h2 => rf_lawW_lo h1 h2) (by rw [rf_lawW_4]; exact rf_n_mk (by decide) (by decide))
theorem rf_L_lawW {w : rf_W} {n e : Nat} (hn : n < 13) (he : e ≤ 400) (D : rf_Dl n e w) : rf_Lw (rf_lawW w (n + 1)) ∧ rf_Lk (rf_lawW w (n + 1)) := by
  have e731 : rf_lawW w (n + 1) 731 = nI n := by rw [rf_lawW_731]; exact am_oi_s n
  have hseg : ∀ i j, j ≤ e → rf_sq (rf_sh w) i j 17 true → rf_sq (rf_lawW w (n + 1)) i j 17 true := fun i j hj s => s.c (fun k h1 h2 => ⟨rf_lawW_s (k := 0) (by omega) (by omega), rf_lawW_s (k := 1) (by omega) (by omega)⟩)
  refine ⟨fun _ => ⟨by rw [e731]; exact rf_n_mk hn (by omega), fun m hm => ?_⟩, fun _ m hm => ?_⟩
  · rw [e731, rf_nat_nI (by omega)] at hm
    obtain ⟨d1, d2, i, j, d3, d4, d5, d6, d7⟩ := D m hm
    have c0 := rf_lawW_l (w := w) (N := n + 1) (m := m) (k := 0) (by omega) (by omega)
    have c1 := rf_lawW_l (w := w) (N := n + 1) (m := m) (k := 1) (by omega) (by omega)
    have c2 := (rf_lawW_l (w := w) (N := n + 1) (m := m) (k := 2) (by omega) (by omega)).trans d3
    have c3 := (rf_lawW_l (w := w) (N := n + 1) (m := m) (k := 3) (by omega) (by omega)).trans d4
    refine ⟨rf_n_congr c0 d1, rf_n_congr c1 d2, by rw [c2]; exact rf_n_mk (by omega) (by omega), by rw [c3]; exact rf_n_mk (by omega) (by omega), ?_, ?_⟩
    · rw [c2, c3, rf_nat_nI (by omega), rf_nat_nI (by omega)]; exact d5
    · rw [c2, c3, rf_nat_nI (by omega), rf_nat_nI (by omega)]
      by_cases hij : i < j
      · have s := hseg i j d6 (d7 hij)
        exact rf_ht_okc (j - i) 0 i 0 1 (fun k h1 h2 => (s.2.1 k h1 (by omega)).1) (s.2.2.2 0 (by omega)) trivial
      · rw [show j - i = 0 by omega]; trivial
  · rw [e731, rf_nat_nI (by omega)] at hm
    obtain ⟨d1, d2, i, j, d3, d4, d5, d6, d7⟩ := D m hm
    have c2 := (rf_lawW_l (w := w) (N := n + 1) (m := m) (k := 2) (by omega) (by omega)).trans d3
    have c3 := (rf_lawW_l (w := w) (N := n + 1) (m := m) (k := 3) (by omega) (by omega)).trans d4
    rw [c2, c3, rf_nat_nI (by omega), rf_nat_nI (by omega)]
    refine ⟨fun k h1 h2 h8 => ?_, fun hij => ?_⟩
    · exact ((hseg i j d6 (d7 (by omega))).2.1 k h1 h2).2 h8
    · exact (hseg i j d6 (d7 hij)).2.2.1 []
theorem cl_La_lawW {c : am_H} {w : rf_W} {n e : Nat} (hn : n < 13) (he : e ≤ 400) (Ln : cl_Ln c n w) (Ld : cl_Ld c e w) (D : rf_Dl n e w) : cl_La c 70 (rf_lawW w (n + 1)) := by
  have e731 : rf_lawW w (n + 1) 731 = nI n := by rw [rf_lawW_731]; exact am_oi_s n
  refine ⟨fun z => ?_, fun _ => ⟨by rw [e731]; exact Ln.1, fun m hm => ?_⟩⟩
  · rw [rf_lawW_4, rf_nat_nI (by decide)] at z
    exact absurd z (by decide)
  · rw [e731, rf_nat_nI (by omega)] at hm
    obtain ⟨l0, l1, l2, l3⟩ := Ln.2 m hm
    obtain ⟨d1, d2, i, j, d3, d4, d5, d6, d7⟩ := D m hm
    have c0 := rf_lawW_l (w := w) (N := n + 1) (m := m) (k := 0) (by omega) (by omega)
    have c1 := rf_lawW_l (w := w) (N := n + 1) (m := m) (k := 1) (by omega) (by omega)
    have c2 := rf_lawW_l (w := w) (N := n + 1) (m := m) (k := 2) (by omega) (by omega)
    have c3 := rf_lawW_l (w := w) (N := n + 1) (m := m) (k := 3) (by omega) (by omega)
    refine ⟨l0.trans c0.symm, l1.trans c1.symm, l2.trans c2.symm, l3.trans c3.symm, fun k h1 h2 => ?_⟩
    rw [c3, d4, rf_nat_nI (by omega)] at h2
    have hk : k < 400 := by omega
    refine (Ld.2 k (by omega)).trans ?_
    have s0 : rf_lawW w (n + 1) (780 + 2 * k) = rf_sh w (780 + 2 * k) := rf_lawW_s (k := 0) hk (by omega)
    have s1 : rf_lawW w (n + 1) (780 + 2 * k + 1) = rf_sh w (780 + 2 * k + 1) := rf_lawW_s (k := 1) hk (by omega)
    rw [cl_op, cl_op, rf_sc, rf_sc, s0, s1]
end LAW5
