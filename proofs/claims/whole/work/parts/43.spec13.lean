/-! lines of a law, all lines, war and law: what the contracts need -/
section SPEC13
theorem rf_lnL_0 {t o w : rf_W} {n : Nat} (h0 : rf_kd t o = 0) : rf_lnL t n o w = (false, o, upd w (1581 + 4 * n) (am_oi (rf_kd t o))) := by rw [rf_lnL, if_pos h0]
theorem rf_lnL_3 {t o w : rf_W} {n : Nat} (h3 : rf_kd t o = 3) : rf_lnL t n o w = rf_lnJ t (1581 + 4 * n) o (upd (upd w (1581 + 4 * n) (am_oi (rf_kd t o))) (1581 + 4 * n + 1) (nI 1)) := by rw [rf_lnL, if_neg (by omega), if_pos h3]
theorem rf_lnL_n0 {t o w : rf_W} {n : Nat} (h0 : rf_kd t o ≠ 0) (h3 : rf_kd t o ≠ 3) (h9 : rf_rNum t o 0 (nI 999) = 0) : rf_lnL t n o w = (false, rf_oNum t o, upd (upd w (1581 + 4 * n) (am_oi (rf_kd t o))) (1581 + 4 * n + 1) (am_oi (rf_rNum t o 0 (nI 999)))) := by rw [rf_lnL, if_neg h0, if_neg h3, if_pos h9]
theorem rf_lnL_n {t o w : rf_W} {n : Nat} (h0 : rf_kd t o ≠ 0) (h3 : rf_kd t o ≠ 3) (h9 : rf_rNum t o 0 (nI 999) ≠ 0) : rf_lnL t n o w = rf_lnJ t (1581 + 4 * n) (rf_oNum t o) (upd (upd w (1581 + 4 * n) (am_oi (rf_kd t o))) (1581 + 4 * n + 1) (am_oi (rf_rNum t o 0 (nI 999)))) := by rw [rf_lnL, if_neg h0, if_neg h3, if_neg h9]
theorem rf_lnJ_n {t o w : rf_W} {k : Nat} (hp : rf_rPas t (rf_dp o 0) 13 = false) : rf_lnJ t k o w = (true, rf_oPas t (rf_dp o 0) 13, upd (upd w (k + 2) (nI (rf_ems o))) (k + 3) (nI (rf_ems (rf_oPas t (rf_dp o 0) 13)))) := by rw [rf_lnJ, rf_lnI, hp]; rfl
theorem rf_lnJ_f {t o w : rf_W} {k : Nat} (hp : rf_rPas t (rf_dp o 0) 13 = true) (hc : (rf_cond t (rf_atom t 6) (rf_oPas t (rf_dp o 0) 13) (upd w (k + 2) (nI (rf_ems o)))).1 = false) : rf_lnJ t k o w = (false, (rf_cond t (rf_atom t 6) (rf_oPas t (rf_dp o 0) 13) (upd w (k + 2) (nI (rf_ems o)))).2) := by
  rw [rf_lnJ, rf_lnI, hp]
  show rf_lnE k (rf_cond t (rf_atom t 6) (rf_oPas t (rf_dp o 0) 13) (upd w (k + 2) (nI (rf_ems o)))) = _
  rw [rf_lnE, hc]
  rfl
theorem rf_lnJ_t {t o w : rf_W} {k : Nat} (hp : rf_rPas t (rf_dp o 0) 13 = true) (hc : (rf_cond t (rf_atom t 6) (rf_oPas t (rf_dp o 0) 13) (upd w (k + 2) (nI (rf_ems o)))).1 = true) : rf_lnJ t k o w = (true, (rf_cond t (rf_atom t 6) (rf_oPas t (rf_dp o 0) 13) (upd w (k + 2) (nI (rf_ems o)))).2.1, upd (rf_cond t (rf_atom t 6) (rf_oPas t (rf_dp o 0) 13) (upd w (k + 2) (nI (rf_ems o)))).2.2 (k + 3) (nI (rf_ems (rf_cond t (rf_atom t 6) (rf_oPas t (rf_dp o 0) 13) (upd w (k + 2) (nI (rf_ems o)))).2.1))) := by
  rw [rf_lnJ, rf_lnI, hp]
  show rf_lnE k (rf_cond t (rf_atom t 6) (rf_oPas t (rf_dp o 0) 13) (upd w (k + 2) (nI (rf_ems o)))) = _
  rw [rf_lnE, hc]
  rfl
theorem rf_line_w {t o w : rf_W} {n : Nat} {b : Bool} (hb : b = true) (hn : n < 14) : rf_line t b n o w = rf_lnW t (rf_oLe t o) w := by subst hb; show (if _ then _ else _) = _; rw [if_neg (by omega)]
theorem rf_line_w0 {t o w : rf_W} {n : Nat} {b : Bool} (hb : b = true) (hn : 14 ≤ n) : rf_line t b n o w = (false, rf_oLe t o, w) := by subst hb; show (if _ then _ else _) = _; rw [if_pos hn]
theorem rf_line_l {t o w : rf_W} {n : Nat} {b : Bool} (hb : b = false) (hn : n < 12) : rf_line t b n o w = rf_lnL t n (rf_oLe t o) w := by subst hb; show (if _ then _ else _) = _; rw [if_neg (by omega)]
theorem rf_line_l0 {t o w : rf_W} {n : Nat} {b : Bool} (hb : b = false) (hn : 12 ≤ n) : rf_line t b n o w = (false, rf_oLe t o, w) := by subst hb; show (if _ then _ else _) = _; rw [if_pos hn]
/-- behind a line: the reader stands well; behind a right one all stands as ahead of one -/
theorem rf_line_ok {t o w : rf_W} {n : Nat} {b : Bool} (h : rf_Ta o) : rf_Tq o (rf_line t b n o w).2.1 ∧ ((rf_line t b n o w).1 = true → n < 14 ∧ rf_Ta (rf_line t b n o w).2.1 ∧ (b = true → rf_I w → rf_I (rf_line t b n o w).2.2 ∧ rf_Ew w (rf_line t b n o w).2.2)) := by
  have hl := rf_Ta_le (t := t) h
  have hm := rf_Tm_le (t := t) h.1
  have hq := hm.q h.2.1
  cases b with
  | true =>
    by_cases hn : n < 14
    · rw [rf_line_w rfl hn]
      have g := rf_Tm_lnW (t := t) (w := w) hl.1 hl.2.2.1
      have gq := g.q hl.2.1
      refine ⟨hq.tr gq, fun z => ⟨hn, ⟨gq.1, gq.2.2.2.2, ?_⟩, fun _ hI => rf_I_lnW hI z⟩⟩
      have e := rf_Tm_ems (hm.tr g)
      have l := (hm.tr g).2.1
      have h3 := h.2.2
      omega
    · rw [rf_line_w0 rfl (by omega)]
      exact ⟨hq, fun z => absurd z Bool.false_ne_true⟩
  | false =>
    by_cases hn : n < 12
    · rw [rf_line_l rfl hn]
      have g := rf_Tc_lnL (t := t) (w := w) (n := n) hl
      exact ⟨hq.tr g.1, fun z => ⟨by omega, ⟨g.1.1, g.1.2.2.2.2, g.2 z⟩, fun z => absurd z Bool.false_ne_true⟩⟩
    · rw [rf_line_l0 rfl (by omega)]
      exact ⟨hq, fun z => absurd z Bool.false_ne_true⟩
theorem rf_isAt_lt {t o : rf_W} {lo hi : Nat} (h : rf_isAt t o lo hi = true) : rf_p o < rf_e o := rf_at_lt h
theorem rf_Ta_bl {t o : rf_W} (h : rf_Ta o) : rf_Ta (rf_oBl t o) := by
  have hm := rf_Tm_bl (t := t) h.1
  refine ⟨hm.1, by rw [hm.2.2.1 16 (by decide) (by decide)]; exact h.2.1, ?_⟩
  have := rf_Tm_ems hm
  have := hm.2.1
  have := h.2.2
  omega
theorem rf_Ta_59 {o : rf_W} (h : rf_Ta o) (hp : rf_p o < rf_e o) : rf_Ta (rf_o59 o) := by
  have he : rf_e o < 401 := h.1.2.1.2
  have e11 : rf_o59 o 11 = o 11 := rf_upd_ne (by decide)
  have e12 : rf_o59 o 12 = o 12 := rf_upd_ne (by decide)
  have e16 : rf_o59 o 16 = o 16 := rf_upd_ne (by decide)
  have e10 : rf_o59 o 10 = nI (rf_p o + 1) := rf_upd_eq
  have ep : rf_nat (rf_o59 o 10) = rf_p o + 1 := by rw [e10, rf_nat_nI (by omega)]
  refine ⟨⟨by rw [e10]; exact rf_n_mk (by omega) (by omega), by rw [e11]; exact h.1.2.1, by rw [ep, e11]; exact hp, by rw [e12]; exact h.1.2.2.2⟩, by rw [e16]; exact h.2.1, ?_⟩
  have h1 : rf_ems (rf_o59 o) = rf_ems o := by rw [rf_ems, rf_ems, e16]
  have h2 : rf_p (rf_o59 o) = rf_p o + 1 := ep
  have := h.2.2
  omega
/-- the tape's fields between two calls -/
def rf_Ob (o : rf_W) : Prop := rf_n (o 9) 401 ∧ rf_n (o 12) 401
theorem rf_Ta_0 {o : rf_W} (h : rf_Ob o) : rf_Ta (rf_o0 o) := by
  have e10 : rf_o0 o 10 = nI 0 := by rw [rf_o0, rf_upd_ne (by decide), rf_uses, rf_upd_eq]
  have e11 : rf_o0 o 11 = o 9 := by rw [rf_o0, rf_upd_ne (by decide), rf_uses, rf_upd_ne (by decide), rf_upd_ne (by decide), rf_upd_eq]
  have e12 : rf_o0 o 12 = o 12 := by rw [rf_o0, rf_upd_ne (by decide), rf_uses, rf_upd_ne (by decide), rf_upd_ne (by decide), rf_upd_ne (by decide), rf_upd_ne (by decide)]
  have e16 : rf_o0 o 16 = nI 0 := rf_upd_eq
  refine ⟨⟨by rw [e10]; exact rf_n_mk (by omega) (by omega), by rw [e11]; exact h.1, by rw [e10, rf_nat_nI (by omega)]; exact Nat.zero_le _, by rw [e12]; exact h.2⟩, by rw [e16]; exact rf_n_mk (by omega) (by omega), ?_⟩
  rw [rf_ems, e16, rf_nat_nI (by omega)]
  exact Nat.zero_le _
theorem rf_lns_le {t : rf_W} {b : Bool} : ∀ f n o w, n + f ≤ 15 → (rf_lns t b f n o w).1 ≤ 16
  | 0, n, o, w, _ => by rw [rf_lns]; exact Nat.zero_le _
  | f + 1, n, o, w, h => by
    rw [rf_lns]
    cases (rf_line t b n o w).1 with
    | false => exact Nat.zero_le _
    | true =>
      show (if _ then _ else _ : Nat × rf_W × rf_W).1 ≤ 16
      split
      · show n + 2 ≤ 16; omega
      · cases rf_isAt t (rf_oBl t (rf_line t b n o w).2.1) 59 59 with
        | true => exact rf_lns_le f (n + 1) _ _ (by omega)
        | false => exact Nat.zero_le _
theorem rf_all_le {t o w : rf_W} {b : Bool} : (rf_all t b o w).1 ≤ 16 := by
  rw [rf_all]
  split
  · show 1 ≤ 16; omega
  · exact rf_lns_le 15 0 _ _ (by omega)
def rf_war (t o w b : rf_W) : Int32 × rf_W × rf_W × rf_W :=
  if (rf_all t true o w).1 = 0 then (nI 0, rf_cp b w 0 0 1580, upd (upd (rf_all t true o w).2.1 14 ((rf_all t true o w).2.1 12)) 0 (nI 1), rf_cp (rf_all t true o w).2.2 (rf_cp b w 0 0 1580) 0 0 1580)
  else if (rf_all t true o w).2.2 3 = nI 12 then (nI 0, rf_cp b w 0 0 1580, upd (upd (rf_all t true o w).2.1 14 (-1)) 0 (nI 2), rf_cp (rf_all t true o w).2.2 (rf_cp b w 0 0 1580) 0 0 1580)
  else ((rf_all t true o w).2.2 3 + nI 1, rf_cp b w 0 0 1580, upd (upd (rf_all t true o w).2.1 14 (-1)) 7 (nI 0), upd (rf_all t true o w).2.2 3 ((rf_all t true o w).2.2 3 + nI 1))
def rf_lawW (w : rf_W) (n : Nat) : rf_W := upd (rf_cp (upd w 1580 (am_oi n)) (upd w 1580 (am_oi n)) 731 1580 849) 4 (nI 1)
def rf_law (t o w : rf_W) : Int32 × rf_W × rf_W :=
  if (rf_all t false o w).1 = 0 then (nI 0, upd (upd (rf_all t false o w).2.1 14 ((rf_all t false o w).2.1 12)) 0 (nI 1), (rf_all t false o w).2.2)
  else (am_oi (rf_all t false o w).1, upd (upd (rf_all t false o w).2.1 14 (-1)) 7 (nI 0), rf_lawW (rf_all t false o w).2.2 (rf_all t false o w).1)
end SPEC13
