/-! lines of a law, all lines of a text, the calls war and law -/
section SPEC12
def rf_kd (t o : rf_W) : Nat := bif rf_isW t o 10 then 1 else bif rf_isW t o 11 then 2 else bif rf_isW t o 12 then 3 else 0
theorem rf_kd_le {t o : rf_W} : rf_kd t o ≤ 3 := by
  unfold rf_kd
  cases rf_isW t o 10 <;> cases rf_isW t o 11 <;> cases rf_isW t o 12 <;> decide
/-- the end of a law's line: its place in the draft is k -/
def rf_lnE (k : Nat) (x : Bool × rf_W × rf_W) : Bool × rf_W × rf_W := bif x.1 then (true, x.2.1, upd x.2.2 (k + 3) (nI (rf_ems x.2.1))) else (false, x.2)
def rf_lnI (t : rf_W) (o w : rf_W) : Bool × rf_W × rf_W := bif rf_rPas t o 13 then rf_cond t (rf_atom t 6) (rf_oPas t o 13) w else (true, rf_oPas t o 13, w)
def rf_lnJ (t : rf_W) (k : Nat) (o w : rf_W) : Bool × rf_W × rf_W := rf_lnE k (rf_lnI t (rf_dp o 0) (upd w (k + 2) (nI (rf_ems o))))
def rf_lnL (t : rf_W) (n : Nat) (o w : rf_W) : Bool × rf_W × rf_W :=
  if rf_kd t o = 0 then (false, o, upd w (1581 + 4 * n) (am_oi (rf_kd t o))) else
  if rf_kd t o = 3 then rf_lnJ t (1581 + 4 * n) o (upd (upd w (1581 + 4 * n) (am_oi (rf_kd t o))) (1581 + 4 * n + 1) (nI 1)) else
  if rf_rNum t o 0 (nI 999) = 0 then (false, rf_oNum t o, upd (upd w (1581 + 4 * n) (am_oi (rf_kd t o))) (1581 + 4 * n + 1) (am_oi (rf_rNum t o 0 (nI 999)))) else
  rf_lnJ t (1581 + 4 * n) (rf_oNum t o) (upd (upd w (1581 + 4 * n) (am_oi (rf_kd t o))) (1581 + 4 * n + 1) (am_oi (rf_rNum t o 0 (nI 999))))
def rf_line (t : rf_W) (war : Bool) (n : Nat) (o w : rf_W) : Bool × rf_W × rf_W :=
  bif war then (if 14 ≤ n then (false, rf_oLe t o, w) else rf_lnW t (rf_oLe t o) w) else (if 12 ≤ n then (false, rf_oLe t o, w) else rf_lnL t n (rf_oLe t o) w)
def rf_o59 (o : rf_W) : rf_W := upd o 10 (nI (rf_p o + 1))
/-- how many lines and one; 0: the text is wrong -/
def rf_lns (t : rf_W) (war : Bool) : Nat → Nat → rf_W → rf_W → Nat × rf_W × rf_W
  | 0, _, o, w => (0, o, w)
  | f + 1, n, o, w =>
    bif (rf_line t war n o w).1 then
      (if rf_p (rf_oBl t (rf_line t war n o w).2.1) = rf_e (rf_oBl t (rf_line t war n o w).2.1) then (n + 2, rf_oBl t (rf_line t war n o w).2.1, (rf_line t war n o w).2.2)
       else bif rf_isAt t (rf_oBl t (rf_line t war n o w).2.1) 59 59 then rf_lns t war f (n + 1) (rf_o59 (rf_oBl t (rf_line t war n o w).2.1)) (rf_line t war n o w).2.2
       else (0, rf_oBl t (rf_line t war n o w).2.1, (rf_line t war n o w).2.2))
    else (0, (rf_line t war n o w).2)
termination_by f _ _ _ => f
def rf_o0 (o : rf_W) : rf_W := upd (rf_uses o) 16 (nI 0)
def rf_all (t : rf_W) (war : Bool) (o w : rf_W) : Nat × rf_W × rf_W :=
  if rf_p (rf_oBl t (rf_o0 o)) = rf_e (rf_oBl t (rf_o0 o)) then (1, rf_oBl t (rf_o0 o), w) else rf_lns t war 15 0 (rf_oBl t (rf_o0 o)) w
/-! what holds of them -/
theorem rf_Tq.tr2 {a b c : rf_W} (h : rf_Tc a b) (g : rf_Tq b c) : rf_Tq a c := h.1.tr g
theorem rf_Tc_lnI {t o w : rf_W} (h : rf_cr o) (h13 : o 13 = nI 0) : rf_Tq o (rf_lnI t o w).2.1 ∧ ((rf_lnI t o w).1 = true → rf_Tc o (rf_lnI t o w).2.1) := by
  have hs := rf_Tm_pas (t := t) (k := 13) h.1
  rw [rf_lnI]
  cases hz : rf_rPas t o 13 with
  | false => exact ⟨hs.q h.2.1, fun _ => (hs.g h.2.1).c⟩
  | true =>
    have hg := rf_good_cond (t := t) (rf_good_atom (t := t) 6 (by omega)) (rf_oPas t o 13) w (hs.cr h) ((hs.2.2.1 13 (by decide) (by decide)).trans h13)
    exact ⟨(hs.q h.2.1).tr hg.1, fun z => ((hs.g h.2.1).tr (hg.2 z)).c⟩
theorem rf_Tc_lnJ {t o w : rf_W} {k : Nat} (h : rf_cr o) (hb : rf_b o ≤ rf_p o) : rf_Tq o (rf_lnJ t k o w).2.1 ∧ ((rf_lnJ t k o w).1 = true → rf_Tc o (rf_lnJ t k o w).2.1) := by
  have u := rf_Tc_dp (d := 0) h hb
  have g := rf_Tc_lnI (t := t) (o := rf_dp o 0) (w := upd w (k + 2) (nI (rf_ems o))) (u.cr h) rf_dp_13
  rw [rf_lnJ, rf_lnE]
  cases hz : (rf_lnI t (rf_dp o 0) (upd w (k + 2) (nI (rf_ems o)))).1 with
  | false => exact ⟨u.1.tr g.1, fun z => absurd z Bool.false_ne_true⟩
  | true => exact ⟨u.1.tr g.1, fun _ => u.tr (g.2 hz)⟩
theorem rf_isW_p {t o : rf_W} {k : Nat} (h : rf_isW t o k = true) : rf_p o - rf_b o = am_len k := by
  rw [rf_isW, rf_word, Bool.and_eq_true, decide_eq_true_eq] at h
  exact h.1
theorem rf_kd_p {t o : rf_W} (h : rf_kd t o ≠ 0) : 3 ≤ rf_p o - rf_b o := by
  have h10 : am_len 10 = 3 := by decide +kernel
  have h11 : am_len 11 = 4 := by decide +kernel
  have h12 : am_len 12 = 4 := by decide +kernel
  rw [rf_kd] at h
  cases e1 : rf_isW t o 10 with
  | true => have := rf_isW_p e1; omega
  | false =>
    cases e2 : rf_isW t o 11 with
    | true => have := rf_isW_p e2; omega
    | false =>
      cases e3 : rf_isW t o 12 with
      | true => have := rf_isW_p e3; omega
      | false => rw [e1, e2, e3] at h; exact absurd rfl h
/-- the standing ahead of a law's line: its steps are no more than what was read -/
def rf_Tl (o : rf_W) : Prop := rf_To o ∧ rf_n (o 16) 402 ∧ rf_b o ≤ rf_p o ∧ rf_ems o ≤ rf_b o
theorem rf_kd_cr {t o : rf_W} (h : rf_Tl o) (hk : rf_kd t o ≠ 0) : rf_cr o := by
  have h1 := rf_kd_p hk
  have h2 := h.2.2.2
  exact ⟨h.1, h.2.1, by omega⟩
theorem rf_Tc_lnL {t o w : rf_W} {n : Nat} (h : rf_Tl o) : rf_Tq o (rf_lnL t n o w).2.1 ∧ ((rf_lnL t n o w).1 = true → rf_ems (rf_lnL t n o w).2.1 ≤ rf_p (rf_lnL t n o w).2.1) := by
  have rq : rf_Tq o o := ⟨h.1, Nat.le_refl _, fun _ _ _ _ _ => rfl, h.2.2.1, h.2.1⟩
  rw [rf_lnL]
  by_cases h0 : rf_kd t o = 0
  · rw [if_pos h0]; exact ⟨rq, fun z => absurd z Bool.false_ne_true⟩
  · rw [if_neg h0]
    have hc := rf_kd_cr h h0
    by_cases h3 : rf_kd t o = 3
    · rw [if_pos h3]
      have g := rf_Tc_lnJ (t := t) (k := 1581 + 4 * n) (w := upd (upd w (1581 + 4 * n) (am_oi (rf_kd t o))) (1581 + 4 * n + 1) (nI 1)) hc h.2.2.1
      exact ⟨g.1, fun z => by have h1 := (g.2 z).2; have h2 := hc.2.2; omega⟩
    · rw [if_neg h3]
      have hn := rf_Tm_num (t := t) h.1
      by_cases h9 : rf_rNum t o 0 (nI 999) = 0
      · rw [if_pos h9]; exact ⟨hn.q h.2.1, fun z => absurd z Bool.false_ne_true⟩
      · rw [if_neg h9]
        have g := rf_Tc_lnJ (t := t) (k := 1581 + 4 * n) (w := upd (upd w (1581 + 4 * n) (am_oi (rf_kd t o))) (1581 + 4 * n + 1) (am_oi (rf_rNum t o 0 (nI 999)))) (hn.cr hc) hn.2.2.2
        exact ⟨(hn.q h.2.1).tr g.1, fun z => by have h1 := (g.2 z).2; have h2 := (hn.cr hc).2.2; omega⟩
/-- the standing ahead of a line -/
def rf_Ta (o : rf_W) : Prop := rf_To o ∧ rf_n (o 16) 402 ∧ rf_ems o ≤ rf_p o
theorem rf_Ta_le {t o : rf_W} (h : rf_Ta o) : rf_Tl (rf_oLe t o) := by
  have hl := rf_Tm_le (t := t) h.1
  have e16 : rf_oLe t o 16 = o 16 := hl.2.2.1 16 (by decide) (by decide)
  obtain ⟨s1, s2, s3, s4, s5, s6, s7⟩ := rf_S_le (t := t) h.1
  have hb : rf_b (rf_oLe t o) = rf_SB t o := by rw [rf_oLe, rf_b_pb (by omega)]
  have he : rf_ems (rf_oLe t o) = rf_ems o := by rw [rf_ems, rf_ems, e16]
  have h3 := h.2.2
  exact ⟨hl.1, by rw [e16]; exact h.2.1, hl.2.2.2, by omega⟩
end SPEC12
