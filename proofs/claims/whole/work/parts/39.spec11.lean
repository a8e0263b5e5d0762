/-! conditions: A reads an atom; rf_opE joins what it reads by the word k with the step op -/
section SPEC11
abbrev rf_Rd := rf_W → rf_W → Bool × rf_W × rf_W
def rf_opL (t : rf_W) (A : rf_Rd) (k op : Nat) : Nat → rf_W → rf_W → Bool × rf_W × rf_W
  | 0, o, w => (false, rf_oPas t o k, w)
  | f + 1, o, w => bif rf_rPas t o k then
      (bif (A (rf_oPas t o k) w).1 then rf_opL t A k op f (rf_oEm (A (rf_oPas t o k) w).2.1) (rf_wEm (A (rf_oPas t o k) w).2.1 (A (rf_oPas t o k) w).2.2 (nI op) (nI 0))
        else (false, (A (rf_oPas t o k) w).2))
    else (true, rf_oPas t o k, w)
termination_by f _ _ => f
def rf_opE (t : rf_W) (A : rf_Rd) (k op : Nat) (o w : rf_W) : Bool × rf_W × rf_W :=
  bif (A o w).1 then rf_opL t A k op 402 (A o w).2.1 (A o w).2.2 else (false, (A o w).2)
def rf_allOf (t : rf_W) (A : rf_Rd) : rf_Rd := rf_opE t A 22 13
def rf_cond (t : rf_W) (A : rf_Rd) : rf_Rd := rf_opE t (rf_allOf t A) 23 14
def rf_at2 (t : rf_W) (op : Nat) (o w : rf_W) : Bool × rf_W × rf_W :=
  bif (rf_sum t o w).1 then (true, rf_oEm (rf_sum t o w).2.1, rf_wEm (rf_sum t o w).2.1 (rf_sum t o w).2.2 (nI op) (nI 0)) else (false, (rf_sum t o w).2)
def rf_at1 (t o w : rf_W) : Bool × rf_W × rf_W :=
  bif rf_rSig t o 60 then rf_at2 t 10 (rf_oSig t o 60) w else
  bif rf_rSig t (rf_oSig t o 60) 62 then rf_at2 t 11 (rf_oSig t (rf_oSig t o 60) 62) w else (false, rf_oSig t (rf_oSig t o 60) 62, w)
def rf_at0 (t o w : rf_W) : Bool × rf_W × rf_W :=
  bif (rf_sum t o w).1 then rf_at1 t (rf_sum t o w).2.1 (rf_sum t o w).2.2 else (false, (rf_sum t o w).2)
def rf_dp (o : rf_W) (d : Nat) : rf_W := upd o 13 (nI d)
def rf_atP (t : rf_W) (d : Nat) (C : rf_Rd) (o w : rf_W) : Bool × rf_W × rf_W :=
  if d = 6 then (false, o, w) else
  bif (C (rf_dp o (d + 1)) w).1 then (rf_rSig t (rf_dp (C (rf_dp o (d + 1)) w).2.1 d) 41, rf_oSig t (rf_dp (C (rf_dp o (d + 1)) w).2.1 d) 41, (C (rf_dp o (d + 1)) w).2.2)
  else (false, (C (rf_dp o (d + 1)) w).2)
def rf_atN (d : Nat) (A : rf_Rd) (o w : rf_W) : Bool × rf_W × rf_W :=
  if d = 6 then (false, o, w) else
  bif (A (rf_dp o (d + 1)) w).1 then (true, rf_oEm (rf_dp (A (rf_dp o (d + 1)) w).2.1 d), rf_wEm (rf_dp (A (rf_dp o (d + 1)) w).2.1 d) (A (rf_dp o (d + 1)) w).2.2 (nI 12) (nI 0))
  else (false, (A (rf_dp o (d + 1)) w).2)
def rf_o2 (t o : rf_W) : rf_W := rf_oPas t (rf_oSig t o 40) 14
def rf_o3 (t o : rf_W) : rf_W := rf_oPas t (rf_o2 t o) 15
def rf_atm (t : rf_W) (d : Nat) (C A : rf_Rd) (o w : rf_W) : Bool × rf_W × rf_W :=
  bif rf_rSig t o 40 then rf_atP t d C (rf_oSig t o 40) w else
  bif rf_rPas t (rf_oSig t o 40) 14 then rf_atN d A (rf_o2 t o) w else
  bif rf_rPas t (rf_o2 t o) 15 then (true, rf_oEm (rf_o3 t o), rf_wEm (rf_o3 t o) w (nI 7) (nI 0)) else rf_at0 t (rf_o3 t o) w
def rf_atom (t : rf_W) : Nat → rf_W → rf_W → Bool × rf_W × rf_W
  | 0, o, w => rf_atm t 6 (fun o w => (false, o, w)) (fun o w => (false, o, w)) o w
  | n + 1, o, w => rf_atm t (5 - n) (rf_cond t (rf_atom t n)) (rf_atom t n) o w
termination_by n _ _ => n
/-- as rf_Tg, but for the depth -/
def rf_Tc (o o' : rf_W) : Prop := rf_Tq o o' ∧ rf_ems o' + rf_p o ≤ rf_ems o + rf_p o'
theorem rf_Tg.c {o o' : rf_W} (h : rf_Tg o o') : rf_Tc o o' := ⟨h.1, h.2.1⟩
theorem rf_Tc.tr {a b c : rf_W} (h : rf_Tc a b) (g : rf_Tc b c) : rf_Tc a c := ⟨h.1.tr g.1, by have h1 := h.2; have h2 := g.2; omega⟩
theorem rf_Tc.cr {o o' : rf_W} (h : rf_Tc o o') (hn : rf_cr o) : rf_cr o' := ⟨h.1.1, h.1.2.2.2.2, by have h1 := h.2; have h2 := hn.2.2; omega⟩
theorem rf_Tc_dp {o : rf_W} {d : Nat} (h : rf_cr o) (hb : rf_b o ≤ rf_p o) : rf_Tc o (rf_dp o d) := by
  have e10 : rf_dp o d 10 = o 10 := rf_upd_ne (by decide)
  have e11 : rf_dp o d 11 = o 11 := rf_upd_ne (by decide)
  have e12 : rf_dp o d 12 = o 12 := rf_upd_ne (by decide)
  have e16 : rf_dp o d 16 = o 16 := rf_upd_ne (by decide)
  have hp : rf_p (rf_dp o d) = rf_p o := by rw [rf_p, rf_p, e10]
  have hb' : rf_b (rf_dp o d) = rf_b o := by rw [rf_b, rf_b, e12]
  have hem : rf_ems (rf_dp o d) = rf_ems o := by rw [rf_ems, rf_ems, e16]
  refine ⟨⟨?_, by omega, fun k _ _ hk _ => rf_upd_ne hk, by omega, by rw [e16]; exact h.2.1⟩, by omega⟩
  unfold rf_To
  rw [e10, e11, e12]
  exact h.1
theorem rf_dp_13 {o : rf_W} {d : Nat} : rf_dp o d 13 = nI d := rf_upd_eq
/-- a reader that keeps the reader's standing, at depth d -/
def rf_good (A : rf_Rd) (d : Nat) : Prop := ∀ o w, rf_cr o → o 13 = nI d → rf_Tq o (A o w).2.1 ∧ ((A o w).1 = true → rf_Tg o (A o w).2.1)
theorem rf_good_opL {t : rf_W} {A : rf_Rd} {d k op : Nat} (hA : rf_good A d) (hk : 0 < am_len k) : ∀ f o w, rf_cr o → o 13 = nI d → rf_Tq o (rf_opL t A k op f o w).2.1 ∧ ((rf_opL t A k op f o w).1 = true → rf_Tg o (rf_opL t A k op f o w).2.1)
  | 0, o, w, h, _ => by
    rw [rf_opL]
    exact ⟨(rf_Tm_pas h.1).q h.2.1, fun z => absurd z Bool.false_ne_true⟩
  | f + 1, o, w, h, h13 => by
    have hs := rf_Tm_pas (t := t) (k := k) h.1
    rw [rf_opL]
    cases hz : rf_rPas t o k with
    | false => exact ⟨hs.q h.2.1, fun _ => hs.g h.2.1⟩
    | true =>
      have hp := hA (rf_oPas t o k) w (hs.cr h) ((hs.2.2.1 13 (by decide) (by decide)).trans h13)
      cases hq : (A (rf_oPas t o k) w).1 with
      | false => exact ⟨(hs.q h.2.1).tr hp.1, fun z => absurd z Bool.false_ne_true⟩
      | true =>
        have hps := rf_pas_s h.1 hk hz
        obtain ⟨g1, g2⟩ := rf_Tg_op h hs (by omega) (hp.2 hq)
        have r := rf_good_opL (t := t) (op := op) hA hk f _ (rf_wEm (A (rf_oPas t o k) w).2.1 (A (rf_oPas t o k) w).2.2 (nI op) (nI 0)) (g1.cr h) (g1.2.2.trans h13)
        exact ⟨g1.1.tr r.1, fun z => g1.tr (r.2 z)⟩
theorem rf_good_op {t : rf_W} {A : rf_Rd} {d k op : Nat} (hA : rf_good A d) (hk : 0 < am_len k) : rf_good (rf_opE t A k op) d := by
  intro o w h h13
  have hp := hA o w h h13
  rw [rf_opE]
  cases hq : (A o w).1 with
  | false => exact ⟨hp.1, fun z => absurd z Bool.false_ne_true⟩
  | true =>
    have g := hp.2 hq
    have r := rf_good_opL (t := t) (op := op) hA hk 402 (A o w).2.1 (A o w).2.2 (g.cr h) (g.2.2.trans h13)
    exact ⟨hp.1.tr r.1, fun z => g.tr (r.2 z)⟩
theorem rf_good_allOf {t : rf_W} {A : rf_Rd} {d : Nat} (hA : rf_good A d) : rf_good (rf_allOf t A) d := rf_good_op hA (by decide +kernel)
theorem rf_good_cond {t : rf_W} {A : rf_Rd} {d : Nat} (hA : rf_good A d) : rf_good (rf_cond t A) d := rf_good_op (rf_good_allOf hA) (by decide +kernel)
theorem rf_Tq_at2 {t o o' w : rf_W} {op : Nat} (h : rf_cr o) (h1 : rf_Tm o o') (hs : rf_p o < rf_p o') : rf_Tq o (rf_at2 t op o' w).2.1 ∧ ((rf_at2 t op o' w).1 = true → rf_Tg o (rf_at2 t op o' w).2.1) := by
  have hp := rf_Tq_sum (t := t) (w := w) (h1.cr h)
  rw [rf_at2]
  cases hq : (rf_sum t o' w).1 with
  | false => exact ⟨(h1.q h.2.1).tr hp.1, fun z => absurd z Bool.false_ne_true⟩
  | true =>
    obtain ⟨g1, g2⟩ := rf_Tg_op h h1 hs (hp.2 hq)
    exact ⟨g1.1, fun _ => g1⟩
theorem rf_Tq_at1 {t o w : rf_W} (h : rf_cr o) : rf_Tq o (rf_at1 t o w).2.1 ∧ ((rf_at1 t o w).1 = true → rf_Tg o (rf_at1 t o w).2.1) := by
  have h1 := rf_Tm_sig (t := t) (c := 60) h.1
  have h2 := rf_Tm_sig (t := t) (c := 62) h1.1
  rw [rf_at1]
  cases hq : rf_rSig t o 60 with
  | true => exact rf_Tq_at2 h h1 (rf_sig_s h.1 hq)
  | false =>
    cases hr : rf_rSig t (rf_oSig t o 60) 62 with
    | true => exact rf_Tq_at2 h (h1.tr h2) (Nat.lt_of_le_of_lt h1.2.1 (rf_sig_s h1.1 hr))
    | false => exact ⟨(h1.tr h2).q h.2.1, fun z => absurd z Bool.false_ne_true⟩
theorem rf_Tq_at0 {t o w : rf_W} (h : rf_cr o) : rf_Tq o (rf_at0 t o w).2.1 ∧ ((rf_at0 t o w).1 = true → rf_Tg o (rf_at0 t o w).2.1) := by
  have hp := rf_Tq_sum (t := t) (w := w) h
  rw [rf_at0]
  cases hq : (rf_sum t o w).1 with
  | false => exact ⟨hp.1, fun z => absurd z Bool.false_ne_true⟩
  | true =>
    have g := hp.2 hq
    have r := rf_Tq_at1 (t := t) (w := (rf_sum t o w).2.2) (g.cr h)
    exact ⟨hp.1.tr r.1, fun z => g.tr (r.2 z)⟩
end SPEC11
