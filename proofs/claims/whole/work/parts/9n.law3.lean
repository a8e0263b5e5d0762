/-! a law's text: atoms by depth, lines, the law that stands -/
section LAW3
theorem rf_kp.mono {A : rf_Rd} {d m m' : Nat} (h : rf_kp A d m) (hm : m ≤ m') : rf_kp A d m' := fun o w a b c => ⟨(h o w a b c).1, (h o w a b c).2.mono hm⟩
theorem rf_lay_at2 {t o w : rf_W} {i op : Nat} (hc : rf_cr o) (hop : op = 10 ∨ op = 11) (hs : rf_sq (rf_sh w) i (rf_ems o) 2 false) (h : (rf_at2 t op o w).1 = true) : rf_ke (rf_ems o) w (rf_at2 t op o w).2.2 ∧ rf_sq (rf_sh (rf_at2 t op o w).2.2) i (rf_ems (rf_at2 t op o w).2.1) 3 true := by
  rw [rf_at2] at h ⊢
  cases hq : (rf_sum t o w).1 with
  | false => rw [hq] at h; exact absurd h Bool.false_ne_true
  | true =>
    have hn4 := (((rf_Tq_sum (t := t) (w := w) hc).2 hq).cr hc).n.2
    exact rf_lay_join hs (rf_lay_sum hc hq) (Nat.lt_trans hn4 (by decide)) (by rcases hop with rfl | rfl; exact Or.inr (Or.inl ⟨rfl, rfl, rfl⟩); exact Or.inr (Or.inr (Or.inl ⟨rfl, rfl, rfl⟩)))
theorem rf_lay_at0 {t o w : rf_W} (hc : rf_cr o) (h : (rf_at0 t o w).1 = true) : rf_lay o w (rf_at0 t o w) 3 true := by
  rw [rf_at0] at h ⊢
  cases hq : (rf_sum t o w).1 with
  | false => rw [hq] at h; exact absurd h Bool.false_ne_true
  | true =>
    rw [hq] at h
    have hl := rf_lay_sum (w := w) hc hq
    have c1 := ((rf_Tq_sum (t := t) (w := w) hc).2 hq).cr hc
    have s1 := rf_Tm_sig (t := t) (c := 60) c1.1
    have s2 := rf_Tm_sig (t := t) (c := 62) s1.1
    have hlt := hl.2.1
    show rf_lay o w (rf_at1 t (rf_sum t o w).2.1 (rf_sum t o w).2.2) 3 true
    have h1 : (rf_at1 t (rf_sum t o w).2.1 (rf_sum t o w).2.2).1 = true := h
    rw [rf_at1] at h1 ⊢
    have e1 : rf_ems (rf_oSig t (rf_sum t o w).2.1 60) = rf_ems (rf_sum t o w).2.1 := rf_ems_pb
    have e2 : rf_ems (rf_oSig t (rf_oSig t (rf_sum t o w).2.1 60) 62) = rf_ems (rf_sum t o w).2.1 := rf_ems_pb.trans e1
    cases hz : rf_rSig t (rf_sum t o w).2.1 60 with
    | true =>
      rw [hz] at h1
      have g := rf_lay_at2 (t := t) (op := 10) (i := rf_ems o) (w := (rf_sum t o w).2.2) (s1.cr c1) (Or.inl rfl) (by rw [e1]; exact hl.2) h1
      exact ⟨hl.1.tr g.1 (by rw [e1]; omega), g.2⟩
    | false =>
      rw [hz] at h1
      have h2 : (bif rf_rSig t (rf_oSig t (rf_sum t o w).2.1 60) 62 then _ else (false, rf_oSig t (rf_oSig t (rf_sum t o w).2.1 60) 62, (rf_sum t o w).2.2)).1 = true := h1
      cases hy : rf_rSig t (rf_oSig t (rf_sum t o w).2.1 60) 62 with
      | false => rw [hy] at h2; exact absurd h2 Bool.false_ne_true
      | true =>
        rw [hy] at h2
        have g := rf_lay_at2 (t := t) (op := 11) (i := rf_ems o) (w := (rf_sum t o w).2.2) (s2.cr (s1.cr c1)) (Or.inr rfl) (by rw [e2]; exact hl.2) h2
        exact ⟨hl.1.tr g.1 (by rw [e2]; omega), g.2⟩
theorem rf_kp_atm {t : rf_W} {d m : Nat} {C A : rf_Rd} (hm : 3 ≤ m) (hC : d ≠ 6 → rf_kp C (d + 1) m) (hA : d ≠ 6 → rf_kp A (d + 1) m) (gA : d ≠ 6 → rf_good A (d + 1)) : rf_kp (rf_atm t d C A) d m := by
  intro o w hc h13 h
  have h1 := rf_Tm_sig (t := t) (c := 40) hc.1
  have h2 := rf_Tm_pas (t := t) (k := 14) h1.1
  have h3 := rf_Tm_pas (t := t) (k := 15) h2.1
  have c1 := h1.cr hc
  have c2 : rf_cr (rf_o2 t o) := h2.cr c1
  have c3 : rf_cr (rf_o3 t o) := h3.cr c2
  have m1 : rf_ems (rf_oSig t o 40) = rf_ems o := rf_ems_pb
  have m2 : rf_ems (rf_o2 t o) = rf_ems o := rf_ems_pb.trans m1
  have m3 : rf_ems (rf_o3 t o) = rf_ems o := rf_ems_pb.trans m2
  rw [rf_atm] at h ⊢
  cases hz : rf_rSig t o 40 with
  | true =>
    rw [hz] at h
    have hh : (rf_atP t d C (rf_oSig t o 40) w).1 = true := h
    show rf_lay o w (rf_atP t d C (rf_oSig t o 40) w) m true
    rw [rf_atP] at hh ⊢
    by_cases d6 : d = 6
    · rw [if_pos d6] at hh; exact absurd hh Bool.false_ne_true
    · rw [if_neg d6] at hh ⊢
      have u := rf_Tc_dp (d := d + 1) c1 h1.2.2.2
      cases hq : (C (rf_dp (rf_oSig t o 40) (d + 1)) w).1 with
      | false => rw [hq] at hh; exact absurd hh Bool.false_ne_true
      | true =>
        have g := hC d6 _ w (u.cr c1) rf_dp_13 hq
        have mu : rf_ems (rf_dp (rf_oSig t o 40) (d + 1)) = rf_ems o := rf_ems_dp.trans m1
        refine ⟨?_, ?_⟩
        · have := g.1; rw [mu] at this; exact this
        · have := g.2
          rw [mu] at this
          show rf_sq (rf_sh (C (rf_dp (rf_oSig t o 40) (d + 1)) w).2.2) (rf_ems o) (rf_ems (rf_oSig t (rf_dp (C (rf_dp (rf_oSig t o 40) (d + 1)) w).2.1 d) 41)) m true
          rw [show rf_ems (rf_oSig t (rf_dp (C (rf_dp (rf_oSig t o 40) (d + 1)) w).2.1 d) 41) = rf_ems (C (rf_dp (rf_oSig t o 40) (d + 1)) w).2.1 from rf_ems_pb.trans rf_ems_dp]
          exact this
  | false =>
    rw [hz] at h
    cases hy : rf_rPas t (rf_oSig t o 40) 14 with
    | true =>
      have hh : (bif rf_rPas t (rf_oSig t o 40) 14 then rf_atN d A (rf_o2 t o) w else _).1 = true := h
      rw [hy] at hh
      have hh : (rf_atN d A (rf_o2 t o) w).1 = true := hh
      show rf_lay o w (rf_atN d A (rf_o2 t o) w) m true
      rw [rf_atN] at hh ⊢
      by_cases d6 : d = 6
      · rw [if_pos d6] at hh; exact absurd hh Bool.false_ne_true
      · rw [if_neg d6] at hh ⊢
        have u := rf_Tc_dp (d := d + 1) c2 h2.2.2.2
        cases hq : (A (rf_dp (rf_o2 t o) (d + 1)) w).1 with
        | false => rw [hq] at hh; exact absurd hh Bool.false_ne_true
        | true =>
          have g := hA d6 _ w (u.cr c2) rf_dp_13 hq
          have mu : rf_ems (rf_dp (rf_o2 t o) (d + 1)) = rf_ems o := rf_ems_dp.trans m2
          have hn4 := (((gA d6) _ w (u.cr c2) rf_dp_13).2 hq |>.cr (u.cr c2)).n.2
          have k1 : rf_ke (rf_ems (A (rf_dp (rf_o2 t o) (d + 1)) w).2.1) (A (rf_dp (rf_o2 t o) (d + 1)) w).2.2 (rf_wE (rf_ems (A (rf_dp (rf_o2 t o) (d + 1)) w).2.1) (A (rf_dp (rf_o2 t o) (d + 1)) w).2.2 (nI 12) (nI 0)) := rf_ke_wE
          have g1 := g.1
          have g2 := g.2
          rw [mu] at g1 g2
          have hlt := g2.1
          show rf_lay o w (true, rf_oEm (rf_dp (A (rf_dp (rf_o2 t o) (d + 1)) w).2.1 d), rf_wEm (rf_dp (A (rf_dp (rf_o2 t o) (d + 1)) w).2.1 d) (A (rf_dp (rf_o2 t o) (d + 1)) w).2.2 (nI 12) (nI 0)) m true
          rw [show rf_wEm (rf_dp (A (rf_dp (rf_o2 t o) (d + 1)) w).2.1 d) (A (rf_dp (rf_o2 t o) (d + 1)) w).2.2 (nI 12) (nI 0) = rf_wE (rf_ems (A (rf_dp (rf_o2 t o) (d + 1)) w).2.1) (A (rf_dp (rf_o2 t o) (d + 1)) w).2.2 (nI 12) (nI 0) from by rw [rf_wEm, rf_ems_dp]; rfl]
          refine ⟨g1.tr k1 (by omega), ?_⟩
          show rf_sq _ (rf_ems o) (rf_ems (rf_oEm (rf_dp (A (rf_dp (rf_o2 t o) (d + 1)) w).2.1 d))) m true
          rw [rf_ems_em (by rw [rf_ems_dp]; exact Nat.lt_trans hn4 (by decide)), rf_ems_dp]
          exact rf_sq_not (k1.sq (Nat.le_refl _) g2) rf_wE_a
    | false =>
      have hh : (bif rf_rPas t (rf_oSig t o 40) 14 then rf_atN d A (rf_o2 t o) w else bif rf_rPas t (rf_o2 t o) 15 then (true, rf_oEm (rf_o3 t o), rf_wEm (rf_o3 t o) w (nI 7) (nI 0)) else rf_at0 t (rf_o3 t o) w).1 = true := h
      rw [hy] at hh
      cases hx : rf_rPas t (rf_o2 t o) 15 with
      | true =>
        show rf_lay o w (true, rf_oEm (rf_o3 t o), rf_wE (rf_ems (rf_o3 t o)) w (nI 7) (nI 0)) m true
        have hn4 := hc.n.2
        rw [m3]
        refine ⟨rf_ke_wE, ?_⟩
        show rf_sq _ (rf_ems o) (rf_ems (rf_oEm (rf_o3 t o))) m true
        rw [rf_ems_em (by rw [m3]; exact Nat.lt_trans hn4 (by decide)), m3]
        exact (rf_sq_leaf (op := 7) rf_wE_a (by decide) (fun z => absurd z (by decide))).mono (by omega)
      | false =>
        have hh2 : (bif rf_rPas t (rf_o2 t o) 15 then (true, rf_oEm (rf_o3 t o), rf_wEm (rf_o3 t o) w (nI 7) (nI 0)) else rf_at0 t (rf_o3 t o) w).1 = true := hh
        rw [hx] at hh2
        have g := rf_lay_at0 (t := t) (w := w) c3 hh2
        show rf_lay o w (rf_at0 t (rf_o3 t o) w) m true
        have g1 := g.1
        have g2 := g.2
        rw [m3] at g1 g2
        exact ⟨g1, g2.mono hm⟩
theorem rf_kp_atom {t : rf_W} : ∀ n, n ≤ 6 → rf_kp (rf_atom t n) (6 - n) (3 + 2 * n)
  | 0, _ => by
    have h := rf_kp_atm (t := t) (d := 6) (m := 3) (C := fun o w => (false, o, w)) (A := fun o w => (false, o, w)) (by omega) (fun z => absurd rfl z) (fun z => absurd rfl z) (fun z => absurd rfl z)
    intro o w a b
    rw [rf_atom]
    exact h o w a b
  | n + 1, hn => by
    have ih := rf_kp_atom (t := t) n (by omega)
    have ig := rf_good_atom (t := t) n (by omega)
    have e : 6 - n = 5 - n + 1 := by omega
    rw [e] at ih ig
    have h := rf_kp_atm (t := t) (d := 5 - n) (m := 3 + 2 * n + 2) (C := rf_cond t (rf_atom t n)) (A := rf_atom t n) (by omega) (fun _ => rf_kp_cond ig ih) (fun _ => ih.mono (by omega)) (fun _ => ig)
    intro o w a b
    rw [rf_atom]
    exact h o w a (by rw [show 5 - n = 6 - (n + 1) by omega]; exact b)
theorem rf_kp_cond0 {t : rf_W} : rf_kp (rf_cond t (rf_atom t 6)) 0 17 := rf_kp_cond (rf_good_atom (t := t) 6 (by omega)) (rf_kp_atom (t := t) 6 (by omega))
/-! lines -/
/-- a line of the draft, written at its place k: its kind, amount, steps -/
def rf_lw (k : Nat) (o w : rf_W) (x : Bool × rf_W × rf_W) (a b : Int32) : Prop := x.2.2 k = a ∧ x.2.2 (k + 1) = b ∧ x.2.2 (k + 2) = nI (rf_ems o) ∧ x.2.2 (k + 3) = nI (rf_ems x.2.1) ∧ rf_ems o ≤ rf_ems x.2.1 ∧ (∀ c, c < 1629 + 2 * rf_ems o → (c < k ∨ k + 4 ≤ c) → x.2.2 c = w c) ∧ (rf_ems o < rf_ems x.2.1 → rf_sq (rf_sh x.2.2) (rf_ems o) (rf_ems x.2.1) 17 true)
theorem rf_lw_J {t o w : rf_W} {k : Nat} {a b : Int32} (hc : rf_cr o) (hb : rf_b o ≤ rf_p o) (hk : k + 4 ≤ 1629) (h : (rf_lnJ t k o (upd (upd w k a) (k + 1) b)).1 = true) : rf_lw k o w (rf_lnJ t k o (upd (upd w k a) (k + 1) b)) a b := by
  have u := rf_Tc_dp (d := 0) hc hb
  have cu := u.cr hc
  have md : rf_ems (rf_dp o 0) = rf_ems o := rf_ems_dp
  cases hp : rf_rPas t (rf_dp o 0) 13 with
  | false =>
    have me : rf_ems (rf_oPas t (rf_dp o 0) 13) = rf_ems o := rf_ems_pb.trans md
    rw [rf_lnJ_n hp]
    refine ⟨?_, ?_, ?_, ?_, Nat.le_of_eq me.symm, fun c h1 h2 => ?_, fun z => absurd z (by show ¬ rf_ems o < rf_ems (rf_oPas t (rf_dp o 0) 13); omega)⟩
    · show upd (upd (upd (upd w k a) (k + 1) b) (k + 2) _) (k + 3) _ k = a
      rw [rf_upd_ne (by omega), rf_upd_ne (by omega), rf_upd_ne (by omega), rf_upd_eq]
    · show upd (upd (upd (upd w k a) (k + 1) b) (k + 2) _) (k + 3) _ (k + 1) = b
      rw [rf_upd_ne (by omega), rf_upd_ne (by omega), rf_upd_eq]
    · show upd (upd (upd (upd w k a) (k + 1) b) (k + 2) _) (k + 3) _ (k + 2) = _
      rw [rf_upd_ne (by omega), rf_upd_eq]
    · show upd (upd (upd (upd w k a) (k + 1) b) (k + 2) _) (k + 3) _ (k + 3) = _
      rw [rf_upd_eq]
    · show upd (upd (upd (upd w k a) (k + 1) b) (k + 2) _) (k + 3) _ c = w c
      rw [rf_upd_ne (by omega), rf_upd_ne (by omega), rf_upd_ne (by omega), rf_upd_ne (by omega)]
  | true =>
    have hs := rf_Tm_pas (t := t) (k := 13) cu.1
    have cs := hs.cr cu
    have me : rf_ems (rf_oPas t (rf_dp o 0) 13) = rf_ems o := rf_ems_pb.trans md
    have h13 : rf_oPas t (rf_dp o 0) 13 13 = nI 0 := (hs.2.2.1 13 (by decide) (by decide)).trans rf_dp_13
    cases hq : (rf_cond t (rf_atom t 6) (rf_oPas t (rf_dp o 0) 13) (upd (upd (upd w k a) (k + 1) b) (k + 2) (nI (rf_ems o)))).1 with
    | false => rw [rf_lnJ_f hp hq] at h; exact absurd h Bool.false_ne_true
    | true =>
      have g := rf_kp_cond0 (t := t) _ _ cs h13 hq
      have g1 := g.1
      have g2 := g.2
      rw [me] at g1 g2
      rw [rf_lnJ_t hp hq]
      generalize rf_cond t (rf_atom t 6) (rf_oPas t (rf_dp o 0) 13) (upd (upd (upd w k a) (k + 1) b) (k + 2) (nI (rf_ems o))) = y at g1 g2 ⊢
      have hlt := g2.1
      have kk : ∀ c, c ≠ k + 3 → upd y.2.2 (k + 3) (nI (rf_ems y.2.1)) c = y.2.2 c := fun c hcn => rf_upd_ne hcn
      refine ⟨?_, ?_, ?_, rf_upd_eq, by show rf_ems o ≤ rf_ems y.2.1; omega, fun c h1 h2 => ?_, fun _ => ?_⟩
      · show upd y.2.2 (k + 3) _ k = a
        rw [kk k (by omega), g1 k (by omega), rf_upd_ne (by omega), rf_upd_ne (by omega), rf_upd_eq]
      · show upd y.2.2 (k + 3) _ (k + 1) = b
        rw [kk (k + 1) (by omega), g1 (k + 1) (by omega), rf_upd_ne (by omega), rf_upd_eq]
      · show upd y.2.2 (k + 3) _ (k + 2) = _
        rw [kk (k + 2) (by omega), g1 (k + 2) (by omega), rf_upd_eq]
      · show upd y.2.2 (k + 3) _ c = w c
        rw [kk c (by omega), g1 c h1, rf_upd_ne (by omega), rf_upd_ne (by omega), rf_upd_ne (by omega)]
      · show rf_sq (rf_sh (upd y.2.2 (k + 3) _)) (rf_ems o) (rf_ems y.2.1) 17 true
        exact g2.c (fun l h1 h2 => ⟨kk _ (by omega), kk _ (by omega)⟩)
theorem rf_lw_L {t o w : rf_W} {n : Nat} (h : rf_Tl o) (hn : n < 12) (hx : (rf_lnL t n o w).1 = true) : ∃ a b : Nat, rf_kd t o = a + 1 ∧ a < 3 ∧ b < 1000 ∧ (a = 2 → b = 1) ∧ (a ≠ 2 → rf_rNum t o 0 (nI 999) = b + 1) ∧ rf_lw (1581 + 4 * n) o w (rf_lnL t n o w) (nI a) (nI b) := by
  have hkd := rf_kd_le (t := t) (o := o)
  by_cases h0 : rf_kd t o = 0
  · rw [rf_lnL_0 h0] at hx; exact absurd hx Bool.false_ne_true
  · have hc := rf_kd_cr h h0
    by_cases h3 : rf_kd t o = 3
    · rw [rf_lnL_3 h3] at hx ⊢
      refine ⟨2, 1, h3, by omega, by omega, fun _ => rfl, fun z => absurd rfl z, ?_⟩
      have e : am_oi (rf_kd t o) = nI 2 := by rw [h3]; exact am_oi_s 2
      rw [e] at hx ⊢
      exact rf_lw_J hc h.2.2.1 (by omega) hx
    · by_cases h9 : rf_rNum t o 0 (nI 999) = 0
      · rw [rf_lnL_n0 h0 h3 h9] at hx; exact absurd hx Bool.false_ne_true
      · rw [rf_lnL_n h0 h3 h9] at hx ⊢
        have hb := rf_num_le (t := t) (o := o) (low := 0) (n := 999) (by decide) h9
        have hnm := rf_Tm_num (t := t) h.1
        have em : rf_ems (rf_oNum t o) = rf_ems o := rf_ems_pb
        refine ⟨rf_kd t o - 1, rf_rNum t o 0 (nI 999) - 1, by omega, by omega, by omega, fun z => absurd z (by omega), fun _ => by omega, ?_⟩
        rw [am_oi_p (by omega), am_oi_p (by omega)] at hx ⊢
        have g := rf_lw_J (hnm.cr hc) hnm.2.2.2 (by omega) hx
        rw [rf_lw, em] at g
        exact g
end LAW3
