/-! a law's text: what its steps come to (kinds, the pile), what it leaves alone -/
section LAW2
/-- the steps from i to j lay one number of kind b upon the pile and need at most m more on it -/
def rf_sg (v : rf_W) (i j m : Nat) (b : Bool) : Prop := i < j ∧ (∀ k, i ≤ k → k < j → rf_n (v (780 + 2 * k)) 15 ∧ (rf_sc v k = 8 → rf_n (v (780 + 2 * k + 1)) 1000)) ∧ (∀ ts c, rf_tl v (j - i + c) i ts = rf_tl v c j (b :: ts)) ∧ (∀ t c, t + m ≤ 39 → rf_okc v c j (t + 1) → rf_okc v (j - i + c) i t)
theorem rf_sg.mono {v : rf_W} {i j m m' : Nat} {b : Bool} (h : rf_sg v i j m b) (hm : m ≤ m') : rf_sg v i j m' b := ⟨h.1, h.2.1, h.2.2.1, fun t c ht => h.2.2.2 t c (by omega)⟩
theorem rf_tl_c {v v' : rf_W} : ∀ c i ts, (∀ k, i ≤ k → k < i + c → v' (780 + 2 * k) = v (780 + 2 * k)) → rf_tl v' c i ts = rf_tl v c i ts
  | 0, i, ts, _ => rfl
  | c + 1, i, ts, h => by
    rw [rf_tl, rf_tl, rf_sc, rf_sc, h i (Nat.le_refl _) (by omega)]
    cases rf_tst (rf_nat (v (780 + 2 * i))) ts with
    | none => rfl
    | some ts' => exact rf_tl_c c (i + 1) ts' (fun k h1 h2 => h k (by omega) (by omega))
theorem rf_tl_add {v : rf_W} : ∀ a c i ts, rf_tl v (a + c) i ts = (rf_tl v a i ts).bind (fun ts' => rf_tl v c (i + a) ts')
  | 0, c, i, ts => by rw [Nat.zero_add]; rfl
  | a + 1, c, i, ts => by
    rw [show a + 1 + c = (a + c) + 1 by omega, rf_tl, rf_tl]
    cases rf_tst (rf_sc v i) ts with
    | none => rfl
    | some ts' =>
      show rf_tl v (a + c) (i + 1) ts' = (rf_tl v a (i + 1) ts').bind _
      rw [rf_tl_add a c (i + 1) ts', show i + 1 + a = i + (a + 1) by omega]
/-- heights only: what the steps from i on, a of them, do to a height; none if they cannot -/
def rf_ht (v : rf_W) : Nat → Nat → Nat → Option Nat
  | 0, _, t => some t
  | a + 1, i, t => if rf_sc v i ≤ 8 then (if t < 39 then rf_ht v a (i + 1) (t + 1) else none) else if rf_sc v i = 12 then (if 1 ≤ t then rf_ht v a (i + 1) t else none) else (if 2 ≤ t then rf_ht v a (i + 1) (t - 1) else none)
theorem rf_ht_okc {v : rf_W} : ∀ a c i t t', (∀ k, i ≤ k → k < i + a → rf_n (v (780 + 2 * k)) 15) → rf_ht v a i t = some t' → rf_okc v c (i + a) t' → rf_okc v (a + c) i t
  | 0, c, i, t, t', _, h, hk => by
    rw [Nat.zero_add]
    obtain rfl := Option.some.inj h
    exact hk
  | a + 1, c, i, t, t', hn, h, hk => by
    rw [show a + 1 + c = (a + c) + 1 by omega]
    rw [rf_ht] at h
    have hk2 : rf_okc v c (i + 1 + a) t' := by rw [show i + 1 + a = i + (a + 1) by omega]; exact hk
    have hn2 : ∀ k, i + 1 ≤ k → k < i + 1 + a → rf_n (v (780 + 2 * k)) 15 := fun k h1 h2 => hn k (by omega) (by omega)
    refine ⟨hn i (Nat.le_refl _) (by omega), fun h8 => ?_, fun h8 h12 => ?_, fun h8 h12 => ?_⟩
    · rw [if_pos h8] at h
      by_cases ht : t < 39
      · rw [if_pos ht] at h
        exact ⟨ht, rf_ht_okc a c (i + 1) (t + 1) t' hn2 h hk2⟩
      · rw [if_neg ht] at h; exact absurd h (by simp)
    · rw [if_neg (by omega), if_pos h12] at h
      by_cases ht : 1 ≤ t
      · rw [if_pos ht] at h
        exact ⟨ht, rf_ht_okc a c (i + 1) t t' hn2 h hk2⟩
      · rw [if_neg ht] at h; exact absurd h (by simp)
    · rw [if_neg (by omega), if_neg h12] at h
      by_cases ht : 2 ≤ t
      · rw [if_pos ht] at h
        exact ⟨ht, rf_ht_okc a c (i + 1) (t - 1) t' hn2 h hk2⟩
      · rw [if_neg ht] at h; exact absurd h (by simp)
theorem rf_ht_add {v : rf_W} : ∀ a c i t, rf_ht v (a + c) i t = (rf_ht v a i t).bind (fun t' => rf_ht v c (i + a) t')
  | 0, c, i, t => by rw [Nat.zero_add]; rfl
  | a + 1, c, i, t => by
    rw [show a + 1 + c = (a + c) + 1 by omega, rf_ht, rf_ht]
    have e : i + 1 + a = i + (a + 1) := by omega
    by_cases h8 : rf_sc v i ≤ 8
    · rw [if_pos h8, if_pos h8]
      by_cases ht : t < 39
      · rw [if_pos ht, if_pos ht, rf_ht_add a c, e]
      · rw [if_neg ht, if_neg ht]; rfl
    · rw [if_neg h8, if_neg h8]
      by_cases h12 : rf_sc v i = 12
      · rw [if_pos h12, if_pos h12]
        by_cases ht : 1 ≤ t
        · rw [if_pos ht, if_pos ht, rf_ht_add a c, e]
        · rw [if_neg ht, if_neg ht]; rfl
      · rw [if_neg h12, if_neg h12]
        by_cases ht : 2 ≤ t
        · rw [if_pos ht, if_pos ht, rf_ht_add a c, e]
        · rw [if_neg ht, if_neg ht]; rfl
theorem rf_ht_c {v v' : rf_W} : ∀ a i t, (∀ k, i ≤ k → k < i + a → v' (780 + 2 * k) = v (780 + 2 * k)) → rf_ht v' a i t = rf_ht v a i t
  | 0, i, t, _ => rfl
  | a + 1, i, t, h => by
    have ih := fun t => rf_ht_c (v := v) (v' := v') a (i + 1) t (fun k h1 h2 => h k (by omega) (by omega))
    rw [rf_ht, rf_ht, rf_sc, rf_sc, h i (Nat.le_refl _) (by omega), ih, ih, ih]
/-- as rf_sg, told by heights -/
def rf_sq (v : rf_W) (i j m : Nat) (b : Bool) : Prop := i < j ∧ (∀ k, i ≤ k → k < j → rf_n (v (780 + 2 * k)) 15 ∧ (rf_sc v k = 8 → rf_n (v (780 + 2 * k + 1)) 1000)) ∧ (∀ ts, rf_tl v (j - i) i ts = some (b :: ts)) ∧ (∀ t, t + m ≤ 39 → rf_ht v (j - i) i t = some (t + 1))
theorem rf_sq.mono {v : rf_W} {i j m m' : Nat} {b : Bool} (h : rf_sq v i j m b) (hm : m ≤ m') : rf_sq v i j m' b := ⟨h.1, h.2.1, h.2.2.1, fun t ht => h.2.2.2 t (by omega)⟩
theorem rf_sq.c {v v' : rf_W} {i j m : Nat} {b : Bool} (h : rf_sq v i j m b) (e : ∀ k, i ≤ k → k < j → v' (780 + 2 * k) = v (780 + 2 * k) ∧ v' (780 + 2 * k + 1) = v (780 + 2 * k + 1)) : rf_sq v' i j m b := by
  have hij := h.1
  refine ⟨h.1, fun k h1 h2 => ?_, fun ts => ?_, fun t ht => ?_⟩
  · rw [rf_sc, (e k h1 h2).1, (e k h1 h2).2]; exact h.2.1 k h1 h2
  · rw [rf_tl_c (v := v) _ _ _ (fun k h1 h2 => (e k h1 (by omega)).1)]; exact h.2.2.1 ts
  · rw [rf_ht_c (v := v) _ _ _ (fun k h1 h2 => (e k h1 (by omega)).1)]; exact h.2.2.2 t ht
/-- a leaf -/
theorem rf_sq_leaf {v : rf_W} {i op : Nat} (h : v (780 + 2 * i) = nI op) (h8 : op ≤ 8) (hv : op = 8 → rf_n (v (780 + 2 * i + 1)) 1000) : rf_sq v i (i + 1) 1 (decide (op = 7)) := by
  have hs : rf_sc v i = op := by rw [rf_sc, h, rf_nat_nI (by omega)]
  refine ⟨by omega, fun k h1 h2 => ?_, fun ts => ?_, fun t ht => ?_⟩
  · obtain rfl : k = i := by omega
    rw [hs, h]; exact ⟨rf_n_mk (by omega) (by omega), hv⟩
  · rw [show i + 1 - i = 0 + 1 by omega, rf_tl, hs, rf_tst, if_pos h8]; rfl
  · rw [show i + 1 - i = 0 + 1 by omega, rf_ht, hs, if_pos h8, if_pos (by omega)]; rfl
def rf_bo (op : Nat) (bi bo : Bool) : Prop := (op = 9 ∧ bi = false ∧ bo = false) ∨ (op = 10 ∧ bi = false ∧ bo = true) ∨ (op = 11 ∧ bi = false ∧ bo = true) ∨ (op = 13 ∧ bi = true ∧ bo = true) ∨ (op = 14 ∧ bi = true ∧ bo = true)
theorem rf_sq_bin {v : rf_W} {i j k op m1 m2 : Nat} {bi bo : Bool} (h1 : rf_sq v i j m1 bi) (h2 : rf_sq v j k m2 bi) (h : v (780 + 2 * k) = nI op) (ho : rf_bo op bi bo) : rf_sq v i (k + 1) (max m1 (m2 + 1)) bo := by
  have hij := h1.1
  have hjk := h2.1
  have hop : 8 < op ∧ op < 15 ∧ op ≠ 12 := by rcases ho with z | z | z | z | z <;> omega
  have hs : rf_sc v k = op := by rw [rf_sc, h, rf_nat_nI (by omega)]
  refine ⟨by omega, fun l a b => ?_, fun ts => ?_, fun t ht => ?_⟩
  · by_cases e1 : l < j
    · exact h1.2.1 l a e1
    · by_cases e2 : l < k
      · exact h2.2.1 l (by omega) e2
      · obtain rfl : l = k := by omega
        rw [hs, h]; exact ⟨rf_n_mk (by omega) (by omega), fun z => absurd z (by omega)⟩
  · rw [show k + 1 - i = (j - i) + ((k - j) + 1) by omega, rf_tl_add, h1.2.2.1 ts]
    show rf_tl v (k - j + 1) (i + (j - i)) (bi :: ts) = _
    rw [show i + (j - i) = j by omega, rf_tl_add, h2.2.2.1 (bi :: ts)]
    show rf_tl v (0 + 1) (j + (k - j)) (bi :: bi :: ts) = _
    rw [show j + (k - j) = k by omega, rf_tl, hs]
    rcases ho with ⟨rfl, rfl, rfl⟩ | ⟨rfl, rfl, rfl⟩ | ⟨rfl, rfl, rfl⟩ | ⟨rfl, rfl, rfl⟩ | ⟨rfl, rfl, rfl⟩ <;> rfl
  · rw [show k + 1 - i = (j - i) + ((k - j) + 1) by omega, rf_ht_add, h1.2.2.2 t (by omega)]
    show rf_ht v (k - j + 1) (i + (j - i)) (t + 1) = _
    rw [show i + (j - i) = j by omega, rf_ht_add, h2.2.2.2 (t + 1) (by omega)]
    show rf_ht v (0 + 1) (j + (k - j)) (t + 1 + 1) = _
    rw [show j + (k - j) = k by omega, rf_ht, hs, if_neg (by omega), if_neg hop.2.2, if_pos (by omega)]
    show some (t + 1 + 1 - 1) = _
    rw [Nat.add_sub_cancel]
theorem rf_sq_not {v : rf_W} {i k m : Nat} (h1 : rf_sq v i k m true) (h : v (780 + 2 * k) = nI 12) : rf_sq v i (k + 1) m true := by
  have hik := h1.1
  have hs : rf_sc v k = 12 := by rw [rf_sc, h, rf_nat_nI (by omega)]
  refine ⟨by omega, fun l a b => ?_, fun ts => ?_, fun t ht => ?_⟩
  · by_cases e1 : l < k
    · exact h1.2.1 l a e1
    · obtain rfl : l = k := by omega
      rw [hs, h]; exact ⟨rf_n_mk (by omega) (by omega), fun z => absurd z (by omega)⟩
  · rw [show k + 1 - i = (k - i) + 1 by omega, rf_tl_add, h1.2.2.1 ts]
    show rf_tl v (0 + 1) (i + (k - i)) (true :: ts) = _
    rw [show i + (k - i) = k by omega, rf_tl, hs]; rfl
  · rw [show k + 1 - i = (k - i) + 1 by omega, rf_ht_add, h1.2.2.2 t ht]
    show rf_ht v (0 + 1) (i + (k - i)) (t + 1) = _
    rw [show i + (k - i) = k by omega, rf_ht, hs, if_neg (by omega), if_pos rfl, if_pos (by omega)]; rfl
/-! the readers -/
/-- the steps below n and all ahead of them stay -/
def rf_ke (n : Nat) (w w' : rf_W) : Prop := ∀ a, a < 1629 + 2 * n → w' a = w a
theorem rf_ke.tr {n n' : Nat} {w1 w2 w3 : rf_W} (h : rf_ke n w1 w2) (g : rf_ke n' w2 w3) (hn : n ≤ n') : rf_ke n w1 w3 := fun a ha => (g a (by omega)).trans (h a ha)
theorem rf_ke_wE {n : Nat} {w : rf_W} {a b : Int32} : rf_ke n w (rf_wE n w a b) := fun x hx => by rw [rf_wE, rf_upd_ne (by omega), rf_upd_ne (by omega)]
theorem rf_ke.sq {n : Nat} {w w' : rf_W} {i j m : Nat} {b : Bool} (h : rf_ke n w w') (hj : j ≤ n) (s : rf_sq (rf_sh w) i j m b) : rf_sq (rf_sh w') i j m b := s.c (fun k h1 h2 => ⟨h _ (by omega), h _ (by omega)⟩)
theorem rf_wE_a {n : Nat} {w : rf_W} {a b : Int32} : rf_sh (rf_wE n w a b) (780 + 2 * n) = a := by rw [rf_sh, rf_wE, rf_upd_ne (by omega), show 780 + 2 * n + 849 = 1629 + 2 * n by omega, rf_upd_eq]
theorem rf_wE_b {n : Nat} {w : rf_W} {a b : Int32} : rf_sh (rf_wE n w a b) (780 + 2 * n + 1) = b := by rw [rf_sh, rf_wE, show 780 + 2 * n + 1 + 849 = 1629 + 2 * n + 1 by omega, rf_upd_eq]
/-- what a reader lays down when it is right -/
def rf_lay (o w : rf_W) (x : Bool × rf_W × rf_W) (m : Nat) (b : Bool) : Prop := rf_ke (rf_ems o) w x.2.2 ∧ rf_sq (rf_sh x.2.2) (rf_ems o) (rf_ems x.2.1) m b
theorem rf_lay_part {t q w : rf_W} (hc : rf_cr q) (h : (rf_part t q w).1 = true) : rf_lay q w (rf_part t q w) 1 false := by
  have hn : rf_ems q < 400 := hc.n.2
  by_cases hr : rf_rNum t q 0 (nI 999) = 0
  · by_cases hw : rf_wd t (rf_oLe t q) = 0
    · exact absurd ((cl_part_0 (w := w) hc.1 hr hw).1.symm.trans h) Bool.false_ne_true
    · have h7 := rf_wd_le (t := t) (o := rf_oLe t q)
      have hl := rf_wd_sl hc.1 hw
      have em : rf_ems (rf_oLe t q) = rf_ems q := rf_ems_pb
      have e : rf_part t q w = (decide (0 < rf_wd t (rf_oLe t q)), rf_oEm (rf_oLe t q), rf_wE (rf_ems q) w (nI (rf_wd t (rf_oLe t q) - 1)) (nI 0)) := by
        rw [rf_part, if_neg hl, rf_wEm, em, am_oi_p (by omega)]; rfl
      rw [e]
      refine ⟨rf_ke_wE, ?_⟩
      show rf_sq (rf_sh (rf_wE (rf_ems q) w _ _)) (rf_ems q) (rf_ems (rf_oEm (rf_oLe t q))) 1 false
      rw [rf_ems_em (by omega), em]
      have := rf_sq_leaf (v := rf_sh (rf_wE (rf_ems q) w (nI (rf_wd t (rf_oLe t q) - 1)) (nI 0))) (i := rf_ems q) rf_wE_a (by omega) (fun z => absurd z (by omega))
      rw [decide_eq_false (by omega)] at this
      exact this
  · have hl := cl_num_sl hc.1 hr
    obtain ⟨e1, e2⟩ := rf_oNum_le hc.1 hl
    have em : rf_ems (rf_oNum t q) = rf_ems q := rf_ems_pb
    have hb := rf_num_le (t := t) (o := q) (low := 0) (n := 999) (by decide) hr
    have e : rf_part t q w = (decide (0 < rf_rNum t q 0 (nI 999)), rf_oEm (rf_oNum t q), rf_wE (rf_ems q) w (nI 8) (nI (rf_rNum t q 0 (nI 999) - 1))) := by
      rw [rf_part, if_pos hl, e1, e2, rf_wEm, em, am_oi_p (by omega)]; rfl
    rw [e]
    refine ⟨rf_ke_wE, ?_⟩
    show rf_sq (rf_sh (rf_wE (rf_ems q) w _ _)) (rf_ems q) (rf_ems (rf_oEm (rf_oNum t q))) 1 false
    rw [rf_ems_em (by omega), em]
    exact rf_sq_leaf (op := 8) rf_wE_a (by omega) (fun _ => by rw [rf_wE_b]; exact rf_n_mk (by omega) (by omega))
/-- one more behind what is laid, joined by a step -/
theorem rf_lay_join {o w : rf_W} {i m0 m op : Nat} {bi bo : Bool} {x : Bool × rf_W × rf_W} (hs : rf_sq (rf_sh w) i (rf_ems o) m0 bi) (hx : rf_lay o w x m bi) (hn : rf_ems x.2.1 < 2147483647) (ho : rf_bo op bi bo) : rf_ke (rf_ems o) w (rf_wEm x.2.1 x.2.2 (nI op) (nI 0)) ∧ rf_sq (rf_sh (rf_wEm x.2.1 x.2.2 (nI op) (nI 0))) i (rf_ems (rf_oEm x.2.1)) (max m0 (m + 1)) bo := by
  have k1 : rf_ke (rf_ems x.2.1) x.2.2 (rf_wEm x.2.1 x.2.2 (nI op) (nI 0)) := rf_ke_wE
  have hlt := hx.2.1
  refine ⟨hx.1.tr k1 (by omega), ?_⟩
  rw [rf_ems_em hn]
  exact rf_sq_bin ((hx.1.tr k1 (by omega)).sq (Nat.le_refl _) hs) (k1.sq (Nat.le_refl _) hx.2) rf_wE_a ho
theorem rf_lay_sumL {t : rf_W} : ∀ f o w i, rf_cr o → rf_sq (rf_sh w) i (rf_ems o) 2 false → (rf_sumL t f o w).1 = true → rf_ke (rf_ems o) w (rf_sumL t f o w).2.2 ∧ rf_sq (rf_sh (rf_sumL t f o w).2.2) i (rf_ems (rf_sumL t f o w).2.1) 2 false ∧ rf_ems o ≤ rf_ems (rf_sumL t f o w).2.1
  | 0, o, w, i, _, _, h => by rw [rf_sumL] at h; exact absurd h Bool.false_ne_true
  | f + 1, o, w, i, hc, hs, h => by
    rw [rf_sumL] at h ⊢
    have hsg := rf_Tm_sig (t := t) (c := 43) hc.1
    have hcs := hsg.cr hc
    have em : rf_ems (rf_oSig t o 43) = rf_ems o := rf_ems_pb
    cases hz : rf_rSig t o 43 with
    | false =>
      refine ⟨fun _ _ => rfl, ?_, Nat.le_of_eq em.symm⟩
      show rf_sq (rf_sh w) i (rf_ems (rf_oSig t o 43)) 2 false
      rw [em]; exact hs
    | true =>
      rw [hz] at h
      cases hq : (rf_part t (rf_oSig t o 43) w).1 with
      | false =>
        have h2 : (bif (rf_part t (rf_oSig t o 43) w).1 then _ else (false, (rf_part t (rf_oSig t o 43) w).2)).1 = true := h
        rw [hq] at h2; exact absurd h2 Bool.false_ne_true
      | true =>
        have h2 : (bif (rf_part t (rf_oSig t o 43) w).1 then _ else (false, (rf_part t (rf_oSig t o 43) w).2)).1 = true := h
        rw [hq] at h2
        have hp := rf_lay_part hcs hq
        have hpt := (rf_Tq_part (t := t) (w := w) hcs).2 hq
        obtain ⟨g1, g2⟩ := rf_Tg_op hc hsg (rf_sig_s hc.1 hz) hpt
        have hn4 := (hpt.cr hcs).n.2
        have hs2 : rf_sq (rf_sh w) i (rf_ems (rf_oSig t o 43)) 2 false := by rw [em]; exact hs
        obtain ⟨j1, j2⟩ := rf_lay_join (op := 9) (bo := false) hs2 hp (by show rf_ems (rf_part t (rf_oSig t o 43) w).2.1 < _; exact Nat.lt_trans hn4 (by decide)) (Or.inl ⟨rfl, rfl, rfl⟩)
        have e2 : rf_ems (rf_oEm (rf_part t (rf_oSig t o 43) w).2.1) = rf_ems (rf_part t (rf_oSig t o 43) w).2.1 + 1 := rf_ems_em (Nat.lt_trans hn4 (by decide))
        have hlt := hp.2.1
        obtain ⟨r1, r2, r3⟩ := rf_lay_sumL f (rf_oEm (rf_part t (rf_oSig t o 43) w).2.1) (rf_wEm (rf_part t (rf_oSig t o 43) w).2.1 (rf_part t (rf_oSig t o 43) w).2.2 (nI 9) (nI 0)) i (g1.cr hc) j2 h2
        rw [em] at j1 hlt
        exact ⟨j1.tr r1 (by omega), r2, by show rf_ems o ≤ rf_ems (rf_sumL t f _ _).2.1; omega⟩
theorem rf_lay_sum {t o w : rf_W} (hc : rf_cr o) (h : (rf_sum t o w).1 = true) : rf_lay o w (rf_sum t o w) 2 false := by
  rw [rf_sum] at h ⊢
  cases hq : (rf_part t o w).1 with
  | false => rw [hq] at h; exact absurd h Bool.false_ne_true
  | true =>
    rw [hq] at h
    have hp := rf_lay_part hc hq
    have hlt := hp.2.1
    obtain ⟨r1, r2, r3⟩ := rf_lay_sumL (t := t) 402 (rf_part t o w).2.1 (rf_part t o w).2.2 (rf_ems o) (((rf_Tq_part (t := t) (w := w) hc).2 hq).cr hc) (hp.2.mono (by omega)) h
    exact ⟨hp.1.tr r1 (by omega), r2⟩
def rf_kp (A : rf_Rd) (d m : Nat) : Prop := ∀ o w, rf_cr o → o 13 = nI d → (A o w).1 = true → rf_lay o w (A o w) m true
theorem rf_kp_opL {t : rf_W} {A : rf_Rd} {d m k op : Nat} (hg : rf_good A d) (hA : rf_kp A d m) (hk : 0 < am_len k) (ho : rf_bo op true true) : ∀ f o w i, rf_cr o → o 13 = nI d → rf_sq (rf_sh w) i (rf_ems o) (m + 1) true → (rf_opL t A k op f o w).1 = true → rf_ke (rf_ems o) w (rf_opL t A k op f o w).2.2 ∧ rf_sq (rf_sh (rf_opL t A k op f o w).2.2) i (rf_ems (rf_opL t A k op f o w).2.1) (m + 1) true ∧ rf_ems o ≤ rf_ems (rf_opL t A k op f o w).2.1
  | 0, o, w, i, _, _, _, h => by rw [rf_opL] at h; exact absurd h Bool.false_ne_true
  | f + 1, o, w, i, hc, h13, hs, h => by
    rw [rf_opL] at h ⊢
    have hsg := rf_Tm_pas (t := t) (k := k) hc.1
    have hcs := hsg.cr hc
    have em : rf_ems (rf_oPas t o k) = rf_ems o := rf_ems_pb
    have hs13 : rf_oPas t o k 13 = nI d := (hsg.2.2.1 13 (by decide) (by decide)).trans h13
    cases hz : rf_rPas t o k with
    | false =>
      refine ⟨fun _ _ => rfl, ?_, Nat.le_of_eq em.symm⟩
      show rf_sq (rf_sh w) i (rf_ems (rf_oPas t o k)) (m + 1) true
      rw [em]; exact hs
    | true =>
      rw [hz] at h
      have h2 : (bif (A (rf_oPas t o k) w).1 then _ else (false, (A (rf_oPas t o k) w).2)).1 = true := h
      cases hq : (A (rf_oPas t o k) w).1 with
      | false => rw [hq] at h2; exact absurd h2 Bool.false_ne_true
      | true =>
        rw [hq] at h2
        have hp := hA _ w hcs hs13 hq
        have hpt := (hg _ w hcs hs13).2 hq
        obtain ⟨g1, g2⟩ := rf_Tg_op hc hsg (by have := rf_pas_s hc.1 hk hz; omega) hpt
        have hn4 := (hpt.cr hcs).n.2
        have hs2 : rf_sq (rf_sh w) i (rf_ems (rf_oPas t o k)) (m + 1) true := by rw [em]; exact hs
        obtain ⟨j1, j2⟩ := rf_lay_join (op := op) (bo := true) hs2 hp (Nat.lt_trans hn4 (by decide)) ho
        rw [Nat.max_self] at j2
        have e2 : rf_ems (rf_oEm (A (rf_oPas t o k) w).2.1) = rf_ems (A (rf_oPas t o k) w).2.1 + 1 := rf_ems_em (Nat.lt_trans hn4 (by decide))
        have hlt := hp.2.1
        obtain ⟨r1, r2, r3⟩ := rf_kp_opL hg hA hk ho f (rf_oEm (A (rf_oPas t o k) w).2.1) (rf_wEm (A (rf_oPas t o k) w).2.1 (A (rf_oPas t o k) w).2.2 (nI op) (nI 0)) i (g1.cr hc) (g1.2.2.trans h13) j2 h2
        rw [em] at j1 hlt
        exact ⟨j1.tr r1 (by omega), r2, by show rf_ems o ≤ rf_ems (rf_opL t A k op f _ _).2.1; omega⟩
theorem rf_kp_op {t : rf_W} {A : rf_Rd} {d m k op : Nat} (hg : rf_good A d) (hA : rf_kp A d m) (hk : 0 < am_len k) (ho : rf_bo op true true) : rf_kp (rf_opE t A k op) d (m + 1) := by
  intro o w hc h13 h
  rw [rf_opE] at h ⊢
  cases hq : (A o w).1 with
  | false => rw [hq] at h; exact absurd h Bool.false_ne_true
  | true =>
    rw [hq] at h
    have hp := hA o w hc h13 hq
    have g := (hg o w hc h13).2 hq
    have hlt := hp.2.1
    obtain ⟨r1, r2, r3⟩ := rf_kp_opL (t := t) hg hA hk ho 402 (A o w).2.1 (A o w).2.2 (rf_ems o) (g.cr hc) (g.2.2.trans h13) (hp.2.mono (by omega)) h
    exact ⟨hp.1.tr r1 (by omega), r2⟩
theorem rf_kp_cond {t : rf_W} {A : rf_Rd} {d m : Nat} (hg : rf_good A d) (hA : rf_kp A d m) : rf_kp (rf_cond t A) d (m + 2) := rf_kp_op (rf_good_allOf hg) (rf_kp_op hg hA (by decide +kernel) (by unfold rf_bo; decide)) (by decide +kernel) (by unfold rf_bo; decide)
end LAW2
