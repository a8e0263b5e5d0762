/-! a law's text: what it leaves alone, and that the law that stands is well made -/
section LAW4
theorem rf_wEm_u {o w : rf_W} {a b : Int32} {c : Nat} (h : c < 1581) : rf_wEm o w a b c = w c := by rw [rf_wEm, rf_upd_ne (by omega), rf_upd_ne (by omega)]
def rf_uw (A : rf_Rd) : Prop := ∀ o w c, c < 1581 → (A o w).2.2 c = w c
theorem rf_uw_part {t : rf_W} : rf_uw (rf_part t) := fun o w c h => by
  rw [rf_part]
  split <;> exact rf_wEm_u h
theorem rf_uw_sumL {t : rf_W} : ∀ f, rf_uw (rf_sumL t f)
  | 0, o, w, c, h => by rw [rf_sumL]
  | f + 1, o, w, c, h => by
    rw [rf_sumL]
    cases rf_rSig t o 43 with
    | false => rfl
    | true =>
      have hp := rf_uw_part (t := t) (rf_oSig t o 43) w c h
      cases hq : (rf_part t (rf_oSig t o 43) w).1 with
      | false => exact hp
      | true => exact (rf_uw_sumL f _ _ c h).trans ((rf_wEm_u h).trans hp)
theorem rf_uw_sum {t : rf_W} : rf_uw (rf_sum t) := fun o w c h => by
  rw [rf_sum]
  have hp := rf_uw_part (t := t) o w c h
  cases hq : (rf_part t o w).1 with
  | false => exact hp
  | true => exact (rf_uw_sumL 402 _ _ c h).trans hp
theorem rf_uw_opL {t : rf_W} {A : rf_Rd} {k op : Nat} (hA : rf_uw A) : ∀ f, rf_uw (rf_opL t A k op f)
  | 0, o, w, c, h => by rw [rf_opL]
  | f + 1, o, w, c, h => by
    rw [rf_opL]
    cases rf_rPas t o k with
    | false => rfl
    | true =>
      have hp := hA (rf_oPas t o k) w c h
      show (bif (A (rf_oPas t o k) w).1 then _ else _ : Bool × rf_W × rf_W).2.2 c = w c
      cases hq : (A (rf_oPas t o k) w).1 with
      | false => exact hp
      | true => exact (rf_uw_opL hA f _ _ c h).trans ((rf_wEm_u h).trans hp)
theorem rf_uw_opE {t : rf_W} {A : rf_Rd} {k op : Nat} (hA : rf_uw A) : rf_uw (rf_opE t A k op) := fun o w c h => by
  rw [rf_opE]
  have hp := hA o w c h
  cases hq : (A o w).1 with
  | false => exact hp
  | true => exact (rf_uw_opL hA 402 _ _ c h).trans hp
theorem rf_uw_cond {t : rf_W} {A : rf_Rd} (hA : rf_uw A) : rf_uw (rf_cond t A) := rf_uw_opE (rf_uw_opE hA)
theorem rf_uw_at2 {t : rf_W} {op : Nat} : rf_uw (rf_at2 t op) := fun o w c h => by
  rw [rf_at2]
  have hp := rf_uw_sum (t := t) o w c h
  cases hq : (rf_sum t o w).1 with
  | false => exact hp
  | true => exact (rf_wEm_u h).trans hp
theorem rf_uw_at0 {t : rf_W} : rf_uw (rf_at0 t) := fun o w c h => by
  rw [rf_at0]
  have hp := rf_uw_sum (t := t) o w c h
  cases hq : (rf_sum t o w).1 with
  | false => exact hp
  | true =>
    show (rf_at1 t (rf_sum t o w).2.1 (rf_sum t o w).2.2).2.2 c = w c
    rw [rf_at1]
    cases rf_rSig t (rf_sum t o w).2.1 60 with
    | true => exact (rf_uw_at2 _ _ c h).trans hp
    | false =>
      cases hz : rf_rSig t (rf_oSig t (rf_sum t o w).2.1 60) 62 with
      | true =>
        exact (rf_uw_at2 _ _ c h).trans hp
      | false =>
        exact hp
theorem rf_uw_atm {t : rf_W} {d : Nat} {C A : rf_Rd} (hC : rf_uw C) (hA : rf_uw A) : rf_uw (rf_atm t d C A) := fun o w c h => by
  rw [rf_atm]
  cases rf_rSig t o 40 with
  | true =>
    show (rf_atP t d C (rf_oSig t o 40) w).2.2 c = w c
    rw [rf_atP]
    by_cases d6 : d = 6
    · rw [if_pos d6]
    · rw [if_neg d6]
      have hp := hC (rf_dp (rf_oSig t o 40) (d + 1)) w c h
      cases hq : (C (rf_dp (rf_oSig t o 40) (d + 1)) w).1 with
      | false => exact hp
      | true => exact hp
  | false =>
    show (bif rf_rPas t (rf_oSig t o 40) 14 then rf_atN d A (rf_o2 t o) w else bif rf_rPas t (rf_o2 t o) 15 then (true, rf_oEm (rf_o3 t o), rf_wEm (rf_o3 t o) w (nI 7) (nI 0)) else rf_at0 t (rf_o3 t o) w).2.2 c = w c
    cases rf_rPas t (rf_oSig t o 40) 14 with
    | true =>
      show (rf_atN d A (rf_o2 t o) w).2.2 c = w c
      rw [rf_atN]
      by_cases d6 : d = 6
      · rw [if_pos d6]
      · rw [if_neg d6]
        have hp := hA (rf_dp (rf_o2 t o) (d + 1)) w c h
        cases hq : (A (rf_dp (rf_o2 t o) (d + 1)) w).1 with
        | false => exact hp
        | true => exact (rf_wEm_u h).trans hp
    | false =>
      show (bif rf_rPas t (rf_o2 t o) 15 then (true, rf_oEm (rf_o3 t o), rf_wEm (rf_o3 t o) w (nI 7) (nI 0)) else rf_at0 t (rf_o3 t o) w).2.2 c = w c
      cases rf_rPas t (rf_o2 t o) 15 with
      | true => exact rf_wEm_u h
      | false => exact rf_uw_at0 _ _ c h
theorem rf_uw_atom {t : rf_W} : ∀ n, rf_uw (rf_atom t n)
  | 0 => fun o w c h => by
    rw [rf_atom]
    exact rf_uw_atm (fun _ _ _ _ => rfl) (fun _ _ _ _ => rfl) o w c h
  | n + 1 => fun o w c h => by
    rw [rf_atom]
    exact rf_uw_atm (rf_uw_cond (rf_uw_atom n)) (rf_uw_atom n) o w c h
theorem rf_uw_lnI {t : rf_W} : rf_uw (rf_lnI t) := fun o w c h => by
  rw [rf_lnI]
  cases rf_rPas t o 13 with
  | true => exact rf_uw_cond (rf_uw_atom 6) _ _ c h
  | false => rfl
theorem rf_uw_lnJ {t : rf_W} {k : Nat} (hk : 1581 ≤ k) : rf_uw (rf_lnJ t k) := fun o w c h => by
  rw [rf_lnJ, rf_lnE]
  have hp := (rf_uw_lnI (t := t) (rf_dp o 0) (upd w (k + 2) (nI (rf_ems o))) c h).trans (rf_upd_ne (by omega))
  cases hq : (rf_lnI t (rf_dp o 0) (upd w (k + 2) (nI (rf_ems o)))).1 with
  | true => exact (rf_upd_ne (by omega)).trans hp
  | false => exact hp
theorem rf_uw_lnL {t : rf_W} {n : Nat} : rf_uw (rf_lnL t n) := fun o w c h => by
  rw [rf_lnL]
  split
  · exact rf_upd_ne (by omega)
  · split
    · exact (rf_uw_lnJ (by omega) _ _ c h).trans ((rf_upd_ne (by omega)).trans (rf_upd_ne (by omega)))
    · split
      · exact (rf_upd_ne (by omega)).trans (rf_upd_ne (by omega))
      · exact (rf_uw_lnJ (by omega) _ _ c h).trans ((rf_upd_ne (by omega)).trans (rf_upd_ne (by omega)))
theorem rf_uw_line {t : rf_W} {n : Nat} : rf_uw (rf_line t false n) := fun o w c h => by
  by_cases hn : n < 12
  · rw [rf_line_l rfl hn]; exact rf_uw_lnL _ _ c h
  · rw [rf_line_l0 rfl (by omega)]
theorem rf_uw_lns {t : rf_W} : ∀ f n o w c, c < 1581 → (rf_lns t false f n o w).2.2 c = w c
  | 0, n, o, w, c, h => by rw [rf_lns]
  | f + 1, n, o, w, c, h => by
    rw [rf_lns]
    have hp := rf_uw_line (t := t) (n := n) o w c h
    cases (rf_line t false n o w).1 with
    | false => exact hp
    | true =>
      show (if _ then _ else _ : Nat × rf_W × rf_W).2.2 c = w c
      split
      · exact hp
      · cases rf_isAt t (rf_oBl t (rf_line t false n o w).2.1) 59 59 with
        | true => exact (rf_uw_lns f _ _ _ c h).trans hp
        | false => exact hp
theorem rf_uw_all {t o w : rf_W} {c : Nat} (h : c < 1581) : (rf_all t false o w).2.2 c = w c := by
  rw [rf_all]
  split
  · rfl
  · exact rf_uw_lns 15 0 _ _ c h
/-! the lines of a draft are well made -/
def rf_Dl (n e : Nat) (w : rf_W) : Prop := ∀ m, m < n → rf_n (w (1581 + 4 * m)) 3 ∧ rf_n (w (1581 + 4 * m + 1)) 1000 ∧ ∃ i j, w (1581 + 4 * m + 2) = nI i ∧ w (1581 + 4 * m + 3) = nI j ∧ i ≤ j ∧ j ≤ e ∧ (i < j → rf_sq (rf_sh w) i j 17 true)
theorem rf_Dl_s {o w : rf_W} {x : Bool × rf_W × rf_W} {n a b : Nat} (hn : n < 12) (D : rf_Dl n (rf_ems o) w) (hlw : rf_lw (1581 + 4 * n) o w x (nI a) (nI b)) (ha : a < 3) (hb : b < 1000) : rf_Dl (n + 1) (rf_ems x.2.1) x.2.2 := by
  obtain ⟨l1, l2, l3, l4, l5, l6, l7⟩ := hlw
  intro m hm
  by_cases e : m = n
  · subst e
    rw [l1, l2]
    exact ⟨rf_n_mk ha (by omega), rf_n_mk hb (by omega), _, _, l3, l4, l5, Nat.le_refl _, l7⟩
  · obtain ⟨d1, d2, i, j, d3, d4, d5, d6, d7⟩ := D m (by omega)
    rw [l6 _ (by omega) (by omega), l6 _ (by omega) (by omega), l6 _ (by omega) (by omega), l6 _ (by omega) (by omega)]
    exact ⟨d1, d2, i, j, d3, d4, d5, by omega, fun z => (d7 z).c (fun k h1 h2 => ⟨l6 _ (by omega) (by omega), l6 _ (by omega) (by omega)⟩)⟩
theorem rf_Dl.le {n e e' : Nat} {w : rf_W} (D : rf_Dl n e w) (h : e ≤ e') : rf_Dl n e' w := fun m hm => by
  obtain ⟨d1, d2, i, j, d3, d4, d5, d6, d7⟩ := D m hm
  exact ⟨d1, d2, i, j, d3, d4, d5, by omega, d7⟩
end LAW4
