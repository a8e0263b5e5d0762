/-! conditions: A reads an atom; rf_opE joins what it reads by the word k with the step op -/
section SPEC11
abbrev rf_Rd := rf_W → rf_W → Bool × rf_W × rf_W
def rf_opL (t : rf_W) (A : rf_Rd) (k op : Nat) : Nat → rf_W → rf_W → Bool × rf_W × rf_W
  | 0, o, w => (false, rf_oPas t o k, w)
  | f + 1, o, w => bif rf_rPas t o k then
      (bif (A (rf_oPas t o k) w).1 then rf_opL t A k op f (rf_oEm (A (rf_oPas t o k) w).2.1) (rf_wEm (A (rf_oPas t o k) w).2.1 (A (rf_oPas t o k) w).2.2 (nI op) (nI 0))
        else (false, (A (rf_oPas t o k) w).2))
    else (true, rf_oPas t o k, w)
termination_by f _ _ => f
def rf_opE (t : rf_W) (A : rf_Rd) (k op : Nat) (o w : rf_W) : Bool × rf_W × rf_W :=
  bif (A o w).1 then rf_opL t A k op 402 (A o w).2.1 (A o w).2.2 else (false, (A o w).2)
def rf_allOf (t : rf_W) (A : rf_Rd) : rf_Rd := rf_opE t A 22 13
def rf_cond (t : rf_W) (A : rf_Rd) : rf_Rd := rf_opE t (rf_allOf t A) 23 14
def rf_at2 (t : rf_W) (op : Nat) (o w : rf_W) : Bool × rf_W × rf_W :=
  bif (rf_sum t o w).1 then (true, rf_oEm (rf_sum t o w).2.1, rf_wEm (rf_sum t o w).2.1 (rf_sum t o w).2.2 (nI op) (nI 0)) else (false, (rf_sum t o w).2)
def rf_at1 (t o w : rf_W) : Bool × rf_W × rf_W :=
  bif rf_rSig t o 60 then rf_at2 t 10 (rf_oSig t o 60) w else
  bif rf_rSig t (rf_oSig t o 60) 62 then rf_at2 t 11 (rf_oSig t (rf_oSig t o 60) 62) w else (false, rf_oSig t (rf_oSig t o 60) 62, w)
def rf_at0 (t o w : rf_W) : Bool × rf_W × rf_W :=
  bif (rf_sum t o w).1 then rf_at1 t (rf_sum t o w).2.1 (rf_sum t o w).2.2 else (false, (rf_sum t o w).2)
def rf_dp (o : rf_W) (d : Nat) : rf_W := upd o 13 (nI d)
def rf_atP (t : rf_W) (d : Nat) (C : rf_Rd) (o w : rf_W) : Bool × rf_W × rf_W :=
  if d = 6 then (false, o, w) else
  bif (C (rf_dp o (d + 1)) w).1 then (rf_rSig t (rf_dp (C (rf_dp o (d + 1)) w).2.1 d) 41, rf_oSig t (rf_dp (C (rf_dp o (d + 1)) w).2.1 d) 41, (C (rf_dp o (d + 1)) w).2.2)
  else (false, (C (rf_dp o (d + 1)) w).2)
def rf_atN (d : Nat) (A : rf_Rd) (o w : rf_W) : Bool × rf_W × rf_W :=
  if d = 6 then (false, o, w) else
  bif (A (rf_dp o (d + 1)) w).1 then (true, rf_oEm (rf_dp (A (rf_dp o (d + 1)) w).2.1 d), rf_wEm (rf_dp (A (rf_dp o (d + 1)) w).2.1 d) (A (rf_dp o (d + 1)) w).2.2 (nI 12) (nI 0))
  else (false, (A (rf_dp o (d + 1)) w).2)
def rf_o2 (t o : rf_W) : rf_W := rf_oPas t (rf_oSig t o 40) 14
def rf_o3 (t o : rf_W) : rf_W := rf_oPas t (rf_o2 t o) 15
def rf_atm (t : rf_W) (d : Nat) (C A : rf_Rd) (o w : rf_W) : Bool × rf_W × rf_W :=
  bif rf_rSig t o 40 then rf_atP t d C (rf_oSig t o 40) w else
  bif rf_rPas t (rf_oSig t o 40) 14 then rf_atN d A (rf_o2 t o) w else
  bif rf_rPas t (rf_o2 t o) 15 then (true, rf_oEm (rf_o3 t o), rf_wEm (rf_o3 t o) w (nI 7) (nI 0)) else rf_at0 t (rf_o3 t o) w
def rf_atom (t : rf_W) : Nat → rf_W → rf_W → Bool × rf_W × rf_W
  | 0, o, w => rf_atm t 6 (fun o w => (false, o, w)) (fun o w => (false, o, w)) o w
  | n + 1, o, w => rf_atm t (5 - n) (rf_cond t (rf_atom t n)) (rf_atom t n) o w
termination_by n _ _ => n
/-- as rf_Tg, but for the depth -/
def rf_Tc (o o' : rf_W) : Prop := rf_Tq o o' ∧ rf_ems o' + rf_p o ≤ rf_ems o + rf_p o'
theorem rf_Tg.c {o o' : rf_W} (h : rf_Tg o o') : rf_Tc o o' := ⟨h.1, h.2.1⟩
theorem rf_Tc.tr {a b c : rf_W} (h : rf_Tc a b) (g : rf_Tc b c) : rf_Tc a c := ⟨h.1.tr g.1, by have h1 := h.2; have h2 := g.2; omega⟩
theorem rf_Tc.cr {o o' : rf_W} (h : rf_Tc o o') (hn : rf_cr o) : rf_cr o' := ⟨h.1.1, h.1.2.2.2.2, by have h1 := h.2; have h2 := hn.2.2; omega⟩
theorem rf_Tc_dp {o : rf_W} {d : Nat} (h : rf_cr o) (hb : rf_b o ≤ rf_p o) : rf_Tc o (rf_dp o d) := by
  have e10 : rf_dp o d 10 = o 10 := rf_upd_ne (by decide)
  have e11 : rf_dp o d 11 = o 11 := rf_upd_ne (by decide)
  have e12 : rf_dp o d 12 = o 12 := rf_upd_ne (by decide)
  have e16 : rf_dp o d 16 = o 16 := rf_upd_ne (by decide)
  have hp : rf_p (rf_dp o d) = rf_p o := by rw [rf_p, rf_p, e10]
  have hb' : rf_b (rf_dp o d) = rf_b o := by rw [rf_b, rf_b, e12]
  have hem : rf_ems (rf_dp o d) = rf_ems o := by rw [rf_ems, rf_ems, e16]
  refine ⟨⟨?_, by omega, fun k _ _ hk _ => rf_upd_ne hk, by omega, by rw [e16]; exact h.2.1⟩, by omega⟩
  unfold rf_To
  rw [e10, e11, e12]
  exact h.1
theorem rf_dp_13 {o : rf_W} {d : Nat} : rf_dp o d 13 = nI d := rf_upd_eq
/-- a reader that keeps the reader's standing, at depth d -/
def rf_good (A : rf_Rd) (d : Nat) : Prop := ∀ o w, rf_cr o → o 13 = nI d → rf_Tq o (A o w).2.1 ∧ ((A o w).1 = true → rf_Tg o (A o w).2.1)
theorem rf_good_opL {t : rf_W} {A : rf_Rd} {d k op : Nat} (hA : rf_good A d) (hk : 0 < am_len k) : ∀ f o w, rf_cr o → o 13 = nI d → rf_Tq o (rf_opL t A k op f o w).2.1 ∧ ((rf_opL t A k op f o w).1 = true → rf_Tg o (rf_opL t A k op f o w).2.1)
  | 0, o, w, h, _ => by
    rw [rf_opL]
    exact ⟨(rf_Tm_pas h.1).q h.2.1, fun z => absurd z Bool.false_ne_true⟩
  | f + 1, o, w, h, h13 => by
    have hs := rf_Tm_pas (t := t) (k := k) h.1
    rw [rf_opL]
    cases hz : rf_rPas t o k with
    | false => exact ⟨hs.q h.2.1, fun _ => hs.g h.2.1⟩
    | true =>
      have hp := hA (rf_oPas t o k) w (hs.cr h) ((hs.2.2.1 13 (by decide) (by decide)).trans h13)
      cases hq : (A (rf_oPas t o k) w).1 with
      | false => exact ⟨(hs.q h.2.1).tr hp.1, fun z => absurd z Bool.false_ne_true⟩
      | true =>
        have hps := rf_pas_s h.1 hk hz
        obtain ⟨g1, g2⟩ := rf_Tg_op h hs (by omega) (hp.2 hq)
        have r := rf_good_opL (t := t) (op := op) hA hk f _ (rf_wEm (A (rf_oPas t o k) w).2.1 (A (rf_oPas t o k) w).2.2 (nI op) (nI 0)) (g1.cr h) (g1.2.2.trans h13)
        exact ⟨g1.1.tr r.1, fun z => g1.tr (r.2 z)⟩
theorem rf_good_op {t : rf_W} {A : rf_Rd} {d k op : Nat} (hA : rf_good A d) (hk : 0 < am_len k) : rf_good (rf_opE t A k op) d := by
  intro o w h h13
  have hp := hA o w h h13
  rw [rf_opE]
  cases hq : (A o w).1 with
  | false => exact ⟨hp.1, fun z => absurd z Bool.false_ne_true⟩
  | true =>
    have g := hp.2 hq
    have r := rf_good_opL (t := t) (op := op) hA hk 402 (A o w).2.1 (A o w).2.2 (g.cr h) (g.2.2.trans h13)
    exact ⟨hp.1.tr r.1, fun z => g.tr (r.2 z)⟩
theorem rf_good_allOf {t : rf_W} {A : rf_Rd} {d : Nat} (hA : rf_good A d) : rf_good (rf_allOf t A) d := rf_good_op hA (by decide +kernel)
theorem rf_good_cond {t : rf_W} {A : rf_Rd} {d : Nat} (hA : rf_good A d) : rf_good (rf_cond t A) d := rf_good_op (rf_good_allOf hA) (by decide +kernel)
theorem rf_Tq_at2 {t o o' w : rf_W} {op : Nat} (h : rf_cr o) (h1 : rf_Tm o o') (hs : rf_p o < rf_p o') : rf_Tq o (rf_at2 t op o' w).2.1 ∧ ((rf_at2 t op o' w).1 = true → rf_Tg o (rf_at2 t op o' w).2.1) := by
  have hp := rf_Tq_sum (t := t) (w := w) (h1.cr h)
  rw [rf_at2]
  cases hq : (rf_sum t o' w).1 with
  | false => exact ⟨(h1.q h.2.1).tr hp.1, fun z => absurd z Bool.false_ne_true⟩
  | true =>
    obtain ⟨g1, g2⟩ := rf_Tg_op h h1 hs (hp.2 hq)
    exact ⟨g1.1, fun _ => g1⟩
theorem rf_Tq_at1 {t o w : rf_W} (h : rf_cr o) : rf_Tq o (rf_at1 t o w).2.1 ∧ ((rf_at1 t o w).1 = true → rf_Tg o (rf_at1 t o w).2.1) := by
  have h1 := rf_Tm_sig (t := t) (c := 60) h.1
  have h2 := rf_Tm_sig (t := t) (c := 62) h1.1
  rw [rf_at1]
  cases hq : rf_rSig t o 60 with
  | true => exact rf_Tq_at2 h h1 (rf_sig_s h.1 hq)
  | false =>
    cases hr : rf_rSig t (rf_oSig t o 60) 62 with
    | true => exact rf_Tq_at2 h (h1.tr h2) (Nat.lt_of_le_of_lt h1.2.1 (rf_sig_s h1.1 hr))
    | false => exact ⟨(h1.tr h2).q h.2.1, fun z => absurd z Bool.false_ne_true⟩
theorem rf_Tq_at0 {t o w : rf_W} (h : rf_cr o) : rf_Tq o (rf_at0 t o w).2.1 ∧ ((rf_at0 t o w).1 = true → rf_Tg o (rf_at0 t o w).2.1) := by
  have hp := rf_Tq_sum (t := t) (w := w) h
  rw [rf_at0]
  cases hq : (rf_sum t o w).1 with
  | false => exact ⟨hp.1, fun z => absurd z Bool.false_ne_true⟩
  | true =>
    have g := hp.2 hq
    have r := rf_Tq_at1 (t := t) (w := (rf_sum t o w).2.2) (g.cr h)
    exact ⟨hp.1.tr r.1, fun z => g.tr (r.2 z)⟩
theorem rf_Tm_ems {o o' : rf_W} (h : rf_Tm o o') : rf_ems o' = rf_ems o := by rw [rf_ems, rf_ems, h.2.2.1 16 (by decide) (by decide)]
theorem rf_good_atm {t : rf_W} {d : Nat} {C A : rf_Rd} (hC : d ≠ 6 → rf_good C (d + 1)) (hA : d ≠ 6 → rf_good A (d + 1)) : rf_good (rf_atm t d C A) d := by
  intro o w h h13
  have h1 := rf_Tm_sig (t := t) (c := 40) h.1
  have h2 := rf_Tm_pas (t := t) (k := 14) h1.1
  have h3 := rf_Tm_pas (t := t) (k := 15) h2.1
  have c1 := h1.cr h
  have c2 := h2.cr c1
  have c3 := h3.cr c2
  rw [rf_atm]
  cases hz : rf_rSig t o 40 with
  | true =>
    show rf_Tq o (rf_atP t d C (rf_oSig t o 40) w).2.1 ∧ ((rf_atP t d C (rf_oSig t o 40) w).1 = true → rf_Tg o (rf_atP t d C (rf_oSig t o 40) w).2.1)
    rw [rf_atP]
    by_cases d6 : d = 6
    · rw [if_pos d6]
      exact ⟨h1.q h.2.1, fun z => absurd z Bool.false_ne_true⟩
    · rw [if_neg d6]
      have u := rf_Tc_dp (d := d + 1) c1 h1.2.2.2
      have cu := u.cr c1
      have hp := hC d6 (rf_dp (rf_oSig t o 40) (d + 1)) w cu rf_dp_13
      cases hq : (C (rf_dp (rf_oSig t o 40) (d + 1)) w).1 with
      | false => exact ⟨((h1.q h.2.1).tr u.1).tr hp.1, fun z => absurd z Bool.false_ne_true⟩
      | true =>
        have g := hp.2 hq
        have cq := g.cr cu
        have v := rf_Tc_dp (d := d) cq g.1.2.2.2.1
        have cv := v.cr cq
        have s := rf_Tm_sig (t := t) (c := 41) cv.1
        have T := ((((h1.g h.2.1).c.tr u).tr g.c).tr v).tr (s.g cv.2.1).c
        exact ⟨T.1, fun _ => ⟨T.1, T.2, (s.2.2.1 13 (by decide) (by decide)).trans (rf_dp_13.trans h13.symm)⟩⟩
  | false =>
    cases hy : rf_rPas t (rf_oSig t o 40) 14 with
    | true =>
      show rf_Tq o (rf_atN d A (rf_o2 t o) w).2.1 ∧ ((rf_atN d A (rf_o2 t o) w).1 = true → rf_Tg o (rf_atN d A (rf_o2 t o) w).2.1)
      have hlen : 0 < am_len 14 := by decide +kernel
      have hps := rf_pas_s h1.1 hlen hy
      rw [rf_atN]
      by_cases d6 : d = 6
      · rw [if_pos d6]
        exact ⟨(h1.tr h2).q h.2.1, fun z => absurd z Bool.false_ne_true⟩
      · rw [if_neg d6]
        have u := rf_Tc_dp (d := d + 1) c2 h2.2.2.2
        have cu := u.cr c2
        have hp := hA d6 (rf_dp (rf_o2 t o) (d + 1)) w cu rf_dp_13
        cases hq : (A (rf_dp (rf_o2 t o) (d + 1)) w).1 with
        | false => exact ⟨(((h1.tr h2).q h.2.1).tr u.1).tr hp.1, fun z => absurd z Bool.false_ne_true⟩
        | true =>
          have g := hp.2 hq
          have cq := g.cr cu
          have v := rf_Tc_dp (d := d) cq g.1.2.2.2.1
          have cv := v.cr cq
          have V := (u.tr g.c).tr v
          obtain ⟨a, b, c, e⟩ := rf_Tq_em cv.1 V.1.2.2.2.1 cv.n
          have em := rf_Tm_ems (h1.tr h2)
          have l1 := h1.2.1
          have l2 := V.2
          refine ⟨(((h1.tr h2).q h.2.1).tr V.1).tr a, fun _ => ⟨(((h1.tr h2).q h.2.1).tr V.1).tr a, ?_, e.trans (rf_dp_13.trans h13.symm)⟩⟩
          show rf_ems (rf_oEm _) + _ ≤ _ + rf_p (rf_oEm _)
          rw [rf_o2] at *
          omega
    | false =>
      cases hx : rf_rPas t (rf_o2 t o) 15 with
      | true =>
        have hlen : 0 < am_len 15 := by decide +kernel
        have hps : rf_p (rf_o2 t o) + am_len 15 ≤ rf_p (rf_o3 t o) := rf_pas_s h2.1 hlen hx
        obtain ⟨a, b, c, e⟩ := rf_Tq_em c3.1 h3.2.2.2 c3.n
        have T := (h1.tr h2).tr h3
        have em := rf_Tm_ems T
        have l1 : rf_p o ≤ rf_p (rf_o2 t o) := (h1.tr h2).2.1
        refine ⟨(T.q h.2.1).tr a, fun _ => ⟨(T.q h.2.1).tr a, ?_, e.trans (T.2.2.1 13 (by decide) (by decide))⟩⟩
        show rf_ems (rf_oEm (rf_o3 t o)) + rf_p o ≤ rf_ems o + rf_p (rf_oEm (rf_o3 t o))
        have e3 : rf_p (rf_o3 t o) = rf_p (rf_oPas t (rf_o2 t o) 15) := rfl
        have e2 : rf_p (rf_o2 t o) = rf_p (rf_oPas t (rf_oSig t o 40) 14) := rfl
        have em3 : rf_ems (rf_o3 t o) = rf_ems o := em
        have b3 : rf_ems (rf_oEm (rf_o3 t o)) = rf_ems (rf_o3 t o) + 1 := b
        have k3 : rf_p (rf_oEm (rf_o3 t o)) = rf_p (rf_o3 t o) := c
        omega
      | false =>
        have T := (h1.tr h2).tr h3
        have r := rf_Tq_at0 (t := t) (w := w) c3
        exact ⟨(T.q h.2.1).tr r.1, fun z => (T.g h.2.1).tr (r.2 z)⟩
theorem rf_good_atom {t : rf_W} : ∀ n, n ≤ 6 → rf_good (rf_atom t n) (6 - n)
  | 0, _ => by
    have h := rf_good_atm (t := t) (d := 6) (C := fun o w => (false, o, w)) (A := fun o w => (false, o, w)) (fun z => absurd rfl z) (fun z => absurd rfl z)
    intro o w a b
    rw [rf_atom]
    exact h o w a b
  | n + 1, hn => by
    have ih := rf_good_atom (t := t) n (by omega)
    have e : 6 - n = 5 - n + 1 := by omega
    rw [e] at ih
    have h := rf_good_atm (t := t) (d := 5 - n) (C := rf_cond t (rf_atom t n)) (A := rf_atom t n) (fun _ => rf_good_cond (t := t) ih) (fun _ => ih)
    intro o w a b
    rw [rf_atom]
    exact h o w a (by rw [show 5 - n = 6 - (n + 1) by omega]; exact b)
end SPEC11
