/-! WHAT a law's text says: the reader of conditions -/
section SPEC10
def rf_wd (t o : rf_W) : Nat :=
  bif rf_isW t o 2 then 1 else bif rf_isW t o 16 then 2 else bif rf_isW t o 17 then 3 else bif rf_isW t o 18 then 4 else
  bif rf_isW t o 19 then 5 else bif rf_isW t o 20 then 6 else bif rf_isW t o 21 then 7 else 0
def rf_part (t o w : rf_W) : Bool × rf_W × rf_W :=
  if rf_SL t o = rf_SB t o then (decide (0 < rf_rNum t (rf_oLe t o) 0 (nI 999)), rf_oEm (rf_oNum t (rf_oLe t o)), rf_wEm (rf_oNum t (rf_oLe t o)) w (nI 8) (am_oi (rf_rNum t (rf_oLe t o) 0 (nI 999))))
  else (decide (0 < rf_wd t (rf_oLe t o)), rf_oEm (rf_oLe t o), rf_wEm (rf_oLe t o) w (am_oi (rf_wd t (rf_oLe t o))) (nI 0))
def rf_sumL (t : rf_W) : Nat → rf_W → rf_W → Bool × rf_W × rf_W
  | 0, o, w => (false, rf_oSig t o 43, w)
  | f + 1, o, w => bif rf_rSig t o 43 then
      (bif (rf_part t (rf_oSig t o 43) w).1 then rf_sumL t f (rf_oEm (rf_part t (rf_oSig t o 43) w).2.1) (rf_wEm (rf_part t (rf_oSig t o 43) w).2.1 (rf_part t (rf_oSig t o 43) w).2.2 (nI 9) (nI 0))
        else (false, (rf_part t (rf_oSig t o 43) w).2))
    else (true, rf_oSig t o 43, w)
termination_by f _ _ => f
def rf_sum (t o w : rf_W) : Bool × rf_W × rf_W :=
  bif (rf_part t o w).1 then rf_sumL t 402 (rf_part t o w).2.1 (rf_part t o w).2.2 else (false, (rf_part t o w).2)
/-- the reader goes on and writes steps -/
def rf_Tq (o o' : rf_W) : Prop := rf_To o' ∧ rf_p o ≤ rf_p o' ∧ (∀ k, k ≠ 10 → k ≠ 12 → k ≠ 13 → k ≠ 16 → o' k = o k) ∧ rf_b o' ≤ rf_p o' ∧ rf_n (o' 16) 402
/-- its steps are fewer than what it has read -/
def rf_cr (o : rf_W) : Prop := rf_To o ∧ rf_n (o 16) 402 ∧ rf_ems o < rf_p o
def rf_Tg (o o' : rf_W) : Prop := rf_Tq o o' ∧ rf_ems o' + rf_p o ≤ rf_ems o + rf_p o' ∧ o' 13 = o 13
theorem rf_Tm.q {o o' : rf_W} (h : rf_Tm o o') (hn : rf_n (o 16) 402) : rf_Tq o o' := ⟨h.1, h.2.1, fun k a b _ _ => h.2.2.1 k a b, h.2.2.2, by rw [h.2.2.1 16 (by decide) (by decide)]; exact hn⟩
theorem rf_Tm.g {o o' : rf_W} (h : rf_Tm o o') (hn : rf_n (o 16) 402) : rf_Tg o o' := ⟨h.q hn, by
  have h1 := h.2.1
  have h2 : rf_ems o' = rf_ems o := by rw [rf_ems, rf_ems, h.2.2.1 16 (by decide) (by decide)]
  omega, h.2.2.1 13 (by decide) (by decide)⟩
theorem rf_Tm.cr {o o' : rf_W} (h : rf_Tm o o') (hn : rf_cr o) : rf_cr o' := by
  have h1 := h.2.1
  have h2 : rf_ems o' = rf_ems o := by rw [rf_ems, rf_ems, h.2.2.1 16 (by decide) (by decide)]
  have h3 := hn.2.2
  exact ⟨h.1, by rw [h.2.2.1 16 (by decide) (by decide)]; exact hn.2.1, by omega⟩
theorem rf_cr.n {o : rf_W} (h : rf_cr o) : rf_n (o 16) 400 := by
  have h1 := h.2.2
  have h2 : rf_p o ≤ rf_e o := h.1.2.2.1
  have h3 : rf_e o < 401 := h.1.2.1.2
  refine ⟨h.2.1.1, ?_⟩
  show rf_ems o < 400
  omega
theorem rf_Tq_em {o : rf_W} (h : rf_To o) (hb : rf_b o ≤ rf_p o) (hn : rf_n (o 16) 400) : rf_Tq o (rf_oEm o) ∧ rf_ems (rf_oEm o) = rf_ems o + 1 ∧ rf_p (rf_oEm o) = rf_p o ∧ rf_oEm o 13 = o 13 := by
  have h2 : rf_ems o < 400 := hn.2
  have e10 : rf_oEm o 10 = o 10 := rf_upd_ne (by decide)
  have e11 : rf_oEm o 11 = o 11 := rf_upd_ne (by decide)
  have e12 : rf_oEm o 12 = o 12 := rf_upd_ne (by decide)
  have e16 : rf_oEm o 16 = nI (rf_ems o + 1) := rf_upd_eq
  have hp : rf_p (rf_oEm o) = rf_p o := by rw [rf_p, rf_p, e10]
  have hb' : rf_b (rf_oEm o) = rf_b o := by rw [rf_b, rf_b, e12]
  refine ⟨⟨?_, by omega, fun k _ _ _ hk => rf_upd_ne hk, by omega, by rw [e16]; exact rf_n_mk (by omega) (by omega)⟩, by rw [rf_ems, e16, rf_nat_nI (by omega)], hp, rf_upd_ne (by decide)⟩
  unfold rf_To
  rw [e10, e11, e12]
  exact h
theorem rf_Tq.tr {a b c : rf_W} (h : rf_Tq a b) (g : rf_Tq b c) : rf_Tq a c := ⟨g.1, Nat.le_trans h.2.1 g.2.1, fun k x y z v => (g.2.2.1 k x y z v).trans (h.2.2.1 k x y z v), g.2.2.2⟩
theorem rf_Tg.tr {a b c : rf_W} (h : rf_Tg a b) (g : rf_Tg b c) : rf_Tg a c := ⟨h.1.tr g.1, by have h1 := h.2.1; have h2 := g.2.1; omega, g.2.2.trans h.2.2⟩
theorem rf_Tg.cr {o o' : rf_W} (h : rf_Tg o o') (hn : rf_cr o) : rf_cr o' := ⟨h.1.1, h.1.2.2.2.2, by have h1 := h.2.1; have h2 := hn.2.2; omega⟩
theorem rf_Le_p {t o : rf_W} (h : rf_To o) : rf_p (rf_oLe t o) = rf_SL t o := by
  obtain ⟨a, b, c, d, e, f, g⟩ := rf_S_le (t := t) h
  rw [rf_oLe, rf_p_pb (by omega)]
theorem rf_wd_le {t o : rf_W} : rf_wd t o ≤ 7 := by
  unfold rf_wd
  cases rf_isW t o 2 <;> cases rf_isW t o 16 <;> cases rf_isW t o 17 <;> cases rf_isW t o 18 <;> cases rf_isW t o 19 <;> cases rf_isW t o 20 <;> cases rf_isW t o 21 <;> decide
theorem rf_Tq_part {t o w : rf_W} (h : rf_cr o) : rf_Tq o (rf_part t o w).2.1 ∧ ((rf_part t o w).1 = true → rf_Tg o (rf_part t o w).2.1) := by
  have hl := rf_Tm_le (t := t) h.1
  have hlc := hl.cr h
  have hn := rf_Tm_num (t := t) hl.1
  have hnc := hn.cr hlc
  have hnn := (hl.tr hn)
  have hem : rf_ems (rf_oNum t (rf_oLe t o)) = rf_ems o := by rw [rf_ems, rf_ems, hnn.2.2.1 16 (by decide) (by decide)]
  have hem2 : rf_ems (rf_oLe t o) = rf_ems o := by rw [rf_ems, rf_ems, hl.2.2.1 16 (by decide) (by decide)]
  rw [rf_part]
  split
  · obtain ⟨a, b, c, d⟩ := rf_Tq_em hn.1 hn.2.2.2 hnc.n
    refine ⟨(hnn.q h.2.1).tr a, fun hs => ⟨(hnn.q h.2.1).tr a, ?_, d.trans (hnn.2.2.1 13 (by decide) (by decide))⟩⟩
    have hs2 := rf_num_s hl.1 (show rf_rNum t (rf_oLe t o) 0 (nI 999) ≠ 0 from by have := of_decide_eq_true hs; omega)
    have hs3 := hl.2.1
    show rf_ems (rf_oEm _) + _ ≤ _ + rf_p (rf_oEm _)
    omega
  · rename_i hz
    obtain ⟨a, b, c, d⟩ := rf_Tq_em hl.1 hl.2.2.2 hlc.n
    refine ⟨(hl.q h.2.1).tr a, fun _ => ⟨(hl.q h.2.1).tr a, ?_, d.trans (hl.2.2.1 13 (by decide) (by decide))⟩⟩
    obtain ⟨s1, s2, s3, s4, s5, s6, s7⟩ := rf_S_le (t := t) h.1
    have hlp := rf_Le_p (t := t) h.1
    show rf_ems (rf_oEm _) + _ ≤ _ + rf_p (rf_oEm _)
    omega
theorem rf_Tq.e {a b : rf_W} (h : rf_Tq a b) : rf_e b = rf_e a := by rw [rf_e, rf_e, h.2.2.1 11 (by decide) (by decide) (by decide) (by decide)]
theorem rf_Tg_op {o o1 o2 : rf_W} (h : rf_cr o) (h1 : rf_Tm o o1) (hs : rf_p o < rf_p o1) (h2 : rf_Tg o1 o2) : rf_Tg o (rf_oEm o2) ∧ rf_p o < rf_p (rf_oEm o2) := by
  have c1 := h1.cr h
  have c2 := h2.cr c1
  obtain ⟨a, b, c, d⟩ := rf_Tq_em c2.1 h2.1.2.2.2.1 c2.n
  have g1 := h1.g h.2.1
  have e1 : rf_ems o1 = rf_ems o := by rw [rf_ems, rf_ems, h1.2.2.1 16 (by decide) (by decide)]
  have l2 := h2.2.1
  have l3 := h2.1.2.1
  exact ⟨⟨(g1.tr h2).1.tr a, by omega, d.trans (g1.tr h2).2.2⟩, by omega⟩
theorem rf_Tq_sumL {t : rf_W} : ∀ f o w, rf_cr o → rf_Tq o (rf_sumL t f o w).2.1 ∧ ((rf_sumL t f o w).1 = true → rf_Tg o (rf_sumL t f o w).2.1)
  | 0, o, w, h => by
    rw [rf_sumL]
    exact ⟨(rf_Tm_sig h.1).q h.2.1, fun z => absurd z Bool.false_ne_true⟩
  | f + 1, o, w, h => by
    have hs := rf_Tm_sig (t := t) (c := 43) h.1
    rw [rf_sumL]
    cases hz : rf_rSig t o 43 with
    | false => exact ⟨hs.q h.2.1, fun _ => hs.g h.2.1⟩
    | true =>
      have hp := rf_Tq_part (t := t) (w := w) (hs.cr h)
      cases hq : (rf_part t (rf_oSig t o 43) w).1 with
      | false => exact ⟨(hs.q h.2.1).tr hp.1, fun z => absurd z Bool.false_ne_true⟩
      | true =>
        obtain ⟨g1, g2⟩ := rf_Tg_op h hs (rf_sig_s h.1 hz) (hp.2 hq)
        have r := rf_Tq_sumL (t := t) f _ (rf_wEm (rf_part t (rf_oSig t o 43) w).2.1 (rf_part t (rf_oSig t o 43) w).2.2 (nI 9) (nI 0)) (g1.cr h)
        exact ⟨g1.1.tr r.1, fun z => g1.tr (r.2 z)⟩
theorem rf_Tq_sum {t o w : rf_W} (h : rf_cr o) : rf_Tq o (rf_sum t o w).2.1 ∧ ((rf_sum t o w).1 = true → rf_Tg o (rf_sum t o w).2.1) := by
  have hp := rf_Tq_part (t := t) (w := w) h
  rw [rf_sum]
  cases hq : (rf_part t o w).1 with
  | false => exact ⟨hp.1, fun z => absurd z Bool.false_ne_true⟩
  | true =>
    have r := rf_Tq_sumL (t := t) 402 (rf_part t o w).2.1 (rf_part t o w).2.2 ((hp.2 hq).cr h)
    exact ⟨hp.1.tr r.1, fun z => (hp.2 hq).tr (r.2 z)⟩
end SPEC10
