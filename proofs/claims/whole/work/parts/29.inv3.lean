/-! WHAT STAYS TRUE of the reference's world, third part: a hit, a reading, a shot, an hour -/
section INV3
theorem rf_okc_congr {w w' : rf_W} (h : ∀ a, 731 ≤ a → w' a = w a) : ∀ c i t, rf_okc w c i t → rf_okc w' c i t
  | 0, _, _, _ => trivial
  | c + 1, i, t, ⟨h1, h2, h3, h4⟩ => by
    have e : rf_sc w' i = rf_sc w i := by rw [rf_sc, rf_sc, h _ (by omega)]
    refine ⟨rf_n_congr (h _ (by omega)) h1, ?_, ?_, ?_⟩
    · rw [e]; exact fun z => ⟨(h2 z).1, rf_okc_congr h c (i + 1) (t + 1) (h2 z).2⟩
    · rw [e]; exact fun z z2 => ⟨(h3 z z2).1, rf_okc_congr h c (i + 1) t (h3 z z2).2⟩
    · rw [e]; exact fun z z2 => ⟨(h4 z z2).1, rf_okc_congr h c (i + 1) (t - 1) (h4 z z2).2⟩
theorem rf_Lw_congr {w w' : rf_W} (h4 : w' 4 = w 4) (h : ∀ a, 731 ≤ a → w' a = w a) (hL : rf_Lw w) : rf_Lw w' := by
  intro hp
  rw [h4] at hp
  obtain ⟨h1, h2⟩ := hL hp
  refine ⟨rf_n_congr (h _ (by omega)) h1, fun n hn => ?_⟩
  rw [h 731 (by omega)] at hn
  obtain ⟨a1, a2, a3, a4, a5, a6⟩ := h2 n hn
  have e2 := h (732 + 4 * n + 2) (by omega)
  have e3 := h (732 + 4 * n + 3) (by omega)
  exact ⟨rf_n_congr (h _ (by omega)) a1, rf_n_congr (h _ (by omega)) a2, rf_n_congr e2 a3, rf_n_congr e3 a4, by rw [e2, e3]; exact a5, by rw [e2, e3]; exact rf_okc_congr h _ _ _ a6⟩
/-- what no act changes: the counts and the law -/
def rf_Eq (w w' : rf_W) : Prop := (∀ a, a < 5 → w' a = w a) ∧ ∀ a, 731 ≤ a → w' a = w a
theorem rf_Eq.rf {w : rf_W} : rf_Eq w w := ⟨fun _ _ => rfl, fun _ _ => rfl⟩
theorem rf_Eq.tr {w1 w2 w3 : rf_W} (h : rf_Eq w1 w2) (h' : rf_Eq w2 w3) : rf_Eq w1 w3 := ⟨fun a ha => (h'.1 a ha).trans (h.1 a ha), fun a ha => (h'.2 a ha).trans (h.2 a ha)⟩
theorem rf_Eq.M {w w' : rf_W} (h : rf_Eq w w') : rf_M w' = rf_M w := by rw [rf_M, rf_M, h.1 0 (by omega)]
theorem rf_Eq.S {w w' : rf_W} (h : rf_Eq w w') : rf_S w' = rf_S w := by rw [rf_S, rf_S, h.1 1 (by omega)]
theorem rf_Eq.O {w w' : rf_W} (h : rf_Eq w w') : rf_O w' = rf_O w := by rw [rf_O, rf_O, h.1 2 (by omega)]
theorem rf_Eq.L {w w' : rf_W} (h : rf_Eq w w') (hL : rf_Lw w) : rf_Lw w' := rf_Lw_congr (h.1 4 (by omega)) h.2 hL
theorem rf_Eq_learn {w : rf_W} {s m : Nat} (hs : s < 10) (hk : rf_kn w s < 13) : rf_Eq w (rf_learn w s m) := by
  rw [rf_learn]
  cases rf_can w s m with
  | false => exact rf_Eq.rf
  | true =>
    refine ⟨fun a ha => ?_, fun a ha => ?_⟩
    · show upd (rf_app w s m) 8 _ a = w a
      rw [rf_upd_ne (by omega), rf_app, rf_upd_ne (by omega), rf_upd_ne (by omega)]
    · show upd (rf_app w s m) 8 _ a = w a
      rw [rf_upd_ne (by omega), rf_app, rf_upd_ne (by omega), rf_upd_ne (by omega)]
theorem rf_I_hit {w : rf_W} {b s : Nat} {g : Bool} (hI : rf_I w) (hb : b < rf_S w) (hs : s < rf_S w) (hk : 0 < rf_kn w s) : rf_I (rf_hit w b s g) ∧ rf_Eq w (rf_hit w b s g) := by
  have hS : rf_S w < 11 := hI.1.2.1.2
  have hM : rf_M w < 17 := hI.1.1.2
  have hkn : rf_kn w s < 13 := (hI.2.1 s hs).2.2.2.2.1.2
  obtain ⟨t1, t2, t3⟩ := rf_takes_ok (g := g) hI hs hk
  obtain ⟨p1, -, -⟩ := rf_pos_spec t3
  rw [rf_hit]
  generalize rf_takes w s g - 1 = m at t2 t3 p1 ⊢
  have h1 := rf_I_lose hI hs p1
  have ho : ∀ a, (a < 61 + 23 * s ∨ 84 + 23 * s ≤ a) → rf_lose w s m a = w a := fun a ha => rf_lose_out p1 hkn ha
  generalize rf_lose w s m = w1 at h1 ho ⊢
  have eM1 : rf_M w1 = rf_M w := by rw [rf_M, rf_M, ho 0 (by omega)]
  have eS1 : rf_S w1 = rf_S w := by rw [rf_S, rf_S, ho 1 (by omega)]
  have hF : rf_F w1 < 41 := h1.2.2.2.2.1.2.2.1.2
  have hp : rf_n (rf_pl w1 s) 8 := (h1.2.1 s (by omega)).2.2.2.1 _ (h1.2.1 s (by omega)).2.2.1.2
  have h2 := rf_I_lie (m := nI m) (p := rf_pl w1 s) (x := nI s) h1 (rf_n_mk (by omega) (by omega)) hp (rf_n_mk (by omega) (by omega))
  have ho2 : ∀ a, (a < 311 ∨ 431 ≤ a) → a ≠ 6 → rf_lie w1 (nI m) (rf_pl w1 s) (nI s) a = w1 a := fun a ha h6 => rf_lie_out ha h6 hF
  generalize rf_lie w1 (nI m) (rf_pl w1 s) (nI s) = w2 at h2 ho2 ⊢
  have eM2 : rf_M w2 = rf_M w1 := by rw [rf_M, rf_M, ho2 0 (by omega) (by omega)]
  have eS2 : rf_S w2 = rf_S w1 := by rw [rf_S, rf_S, ho2 1 (by omega) (by omega)]
  refine ⟨rf_I_logs h2 (rf_n_mk (by omega) (by omega)) (rf_n_mk (by omega) (by omega)) (rf_n_mk (by omega) (by omega)), fun a ha => ?_, fun a ha => ?_⟩
  · rw [rf_logs_out (by omega) (by omega) (by omega), ho2 a (by omega) (by omega), ho a (by omega)]
  · rw [rf_logs_out (by omega) (by omega) (by omega), ho2 a (by omega) (by omega), ho a (by omega)]
theorem rf_rd1_ok {all : Int32} {s o : Nat} {x : rf_W × Nat} (hI : rf_I x.1) (ho : o < rf_S x.1) : ∀ n, n ≤ rf_M x.1 → rf_I (rf_rd1 all s o n x).1 ∧ rf_Eq x.1 (rf_rd1 all s o n x).1 ∧ (rf_rd1 all s o n x).2 ≤ x.2 + n
  | 0, _ => ⟨hI, rf_Eq.rf, Nat.le_refl _⟩
  | n + 1, hn => by
    obtain ⟨i1, i2, i3⟩ := rf_rd1_ok hI ho n (by omega)
    rw [rf_rd1]
    split
    · have hS := i1.1.2.1.2
      have ho2 : o < rf_S (rf_rd1 all s o n x).1 := by rw [i2.S]; exact ho
      have hS2 : rf_S (rf_rd1 all s o n x).1 < 11 := hS
      refine ⟨rf_I_learn i1 ho2 (by rw [i2.M]; omega), i2.tr (rf_Eq_learn (by omega) (i1.2.1 o ho2).2.2.2.2.1.2), ?_⟩
      show _ + (if _ then 1 else 0) ≤ _
      split <;> omega
    · exact ⟨i1, i2, by omega⟩
theorem rf_rd2_ok {all : Int32} {s : Nat} {x : rf_W × Nat} (hI : rf_I x.1) : ∀ o, o ≤ rf_S x.1 → rf_I (rf_rd2 all s (rf_M x.1) o x).1 ∧ rf_Eq x.1 (rf_rd2 all s (rf_M x.1) o x).1 ∧ (rf_rd2 all s (rf_M x.1) o x).2 ≤ x.2 + 16 * o
  | 0, _ => ⟨hI, rf_Eq.rf, Nat.le_refl _⟩
  | o + 1, ho => by
    obtain ⟨i1, i2, i3⟩ := rf_rd2_ok (all := all) (s := s) hI o (by omega)
    have hM : rf_M x.1 < 17 := hI.1.1.2
    rw [rf_rd2]
    obtain ⟨j1, j2, j3⟩ := rf_rd1_ok (all := all) (s := s) (o := o) i1 (by rw [i2.S]; omega) (rf_M x.1) (by rw [i2.M]; exact Nat.le_refl _)
    exact ⟨j1, i2.tr j2, by omega⟩
theorem rf_I_read {w : rf_W} {s : Nat} (hI : rf_I w) : rf_I (rf_read w s).1 ∧ rf_Eq w (rf_read w s).1 ∧ (rf_read w s).2 ≤ 160 := by
  have hS : rf_S w < 11 := hI.1.2.1.2
  obtain ⟨h1, h2, h3⟩ := rf_rd2_ok (all := rf_sideIn w (rf_of w s 0) (rf_pl w s)) (s := s) (x := (w, 0)) hI (rf_S w) (Nat.le_refl _)
  refine ⟨h1, h2, ?_⟩
  have : (rf_read w s).2 ≤ 0 + 16 * rf_S w := h3
  omega
theorem rf_Eq_draw {w : rf_W} : rf_Eq w (rf_draw w) := ⟨fun a ha => rf_upd_ne (by omega), fun a ha => rf_upd_ne (by omega)⟩
theorem rf_tgt_ok (w : rf_W) (foes : Int32) : ∀ n, 0 < rf_tgt w foes n → rf_tgt w foes n - 1 < n ∧ 0 < rf_kn w (rf_tgt w foes n - 1) ∧ am_bt foes (rf_tgt w foes n - 1) = true
  | 0, h => absurd h (Nat.lt_irrefl 0)
  | n + 1, h => by
    rw [rf_tgt] at h ⊢
    by_cases hc : am_bt foes n = true ∧ 0 < rf_kn w n ∧ (rf_tgt w foes n = 0 ∨ rf_kn w (rf_tgt w foes n - 1) < rf_kn w n)
    · rw [if_pos hc]
      exact ⟨by omega, hc.2.1, hc.1⟩
    · rw [if_neg hc] at h ⊢
      obtain ⟨a, b, c⟩ := rf_tgt_ok w foes n h
      exact ⟨by omega, b, c⟩
theorem rf_target_ok {w : rf_W} {s : Nat} (h : 0 < rf_target w s) : rf_target w s - 1 < rf_S w ∧ 0 < rf_kn w (rf_target w s - 1) := by
  rw [rf_target] at h ⊢
  by_cases hu : rf_use w s = 0
  · rw [if_pos hu] at h; exact absurd h (Nat.lt_irrefl 0)
  · rw [if_neg hu] at h ⊢
    obtain ⟨a, b, -⟩ := rf_tgt_ok w _ _ h
    exact ⟨a, b⟩
theorem rf_kn_draw {w : rf_W} {s : Nat} : rf_kn (rf_draw w) s = rf_kn w s := by
  rw [rf_kn, rf_kn, rf_ofn, rf_ofn, rf_of, rf_of, rf_draw, rf_upd_ne (by omega)]
theorem rf_I_shoot {w : rf_W} {s : Nat} (hI : rf_I w) (hs : s < rf_S w) : rf_I (rf_shoot w s) ∧ rf_Eq w (rf_shoot w s) := by
  rw [rf_shoot]
  by_cases h0 : rf_target w s = 0
  · rw [if_pos h0]; exact ⟨hI, rf_Eq.rf⟩
  · rw [if_neg h0]
    obtain ⟨t1, t2⟩ := rf_target_ok (Nat.pos_of_ne_zero h0)
    have hd := rf_I_draw hI
    by_cases h1 : rf_dr w % 100 < rf_says (rf_draw w) 0 s
    · rw [if_pos h1]
      have hdd := rf_I_draw hd
      have e : rf_Eq w (rf_draw (rf_draw w)) := rf_Eq_draw.tr rf_Eq_draw
      have hh := rf_I_hit (b := s) (s := rf_target w s - 1) (g := decide (rf_dr (rf_draw w) % 100 < rf_says (rf_draw (rf_draw w)) 1 s)) hdd (by rw [e.S]; exact hs) (by rw [e.S]; exact t1) (by rw [rf_kn_draw, rf_kn_draw]; exact t2)
      exact ⟨hh.1, e.tr hh.2⟩
    · rw [if_neg h1]; exact ⟨hd, rf_Eq_draw⟩
theorem rf_I_at {w : rf_W} {s v : Nat} (hI : rf_I w) (hs : s < rf_S w) (hv : v < rf_ofn w s 2) : rf_I (upd w (61 + 23 * s + 1) (nI v)) ∧ rf_Eq w (upd w (61 + 23 * s + 1) (nI v)) := by
  have hS : rf_S w < 11 := hI.1.2.1.2
  have ho : ∀ a, a ≠ 61 + 23 * s + 1 → upd w (61 + 23 * s + 1) (nI v) a = w a := fun a h => rf_upd_ne h
  have e1 : upd w (61 + 23 * s + 1) (nI v) (61 + 23 * s + 1) = nI v := rf_upd_eq
  generalize upd w (61 + 23 * s + 1) (nI v) = w' at ho e1 ⊢
  refine ⟨rf_I_sol (s := s) hI (fun a ha _ _ _ _ => ho a (by omega)) ?_ (by omega), fun a ha => ho a (by omega), fun a ha => ho a (by omega)⟩
  obtain ⟨h0, h2, h1, hw, h9, hl, hd, hb⟩ := hI.2.1 s hs
  have hn7 : rf_ofn w s 2 < 7 := h2.2
  have eo : ∀ k, k ≠ 1 → rf_of w' s k = rf_of w s k := fun k hk => ho _ (by omega)
  have eM : rf_M w' = rf_M w := by rw [rf_M, rf_M, ho 0 (by omega)]
  have e2 : rf_ofn w' s 2 = rf_ofn w s 2 := by rw [rf_ofn, rf_ofn, eo 2 (by omega)]
  have ek : rf_kn w' s = rf_kn w s := by rw [rf_kn, rf_kn, rf_ofn, rf_ofn, eo 9 (by omega)]
  have el : ∀ k, rf_li w' s k = rf_li w s k := fun k => by rw [rf_li, rf_li, rf_ofn, rf_ofn, eo (10 + k) (by omega)]
  refine ⟨rf_n_congr (eo 0 (by omega)) h0, rf_n_congr (eo 2 (by omega)) h2, ?_, fun j hj => ?_, rf_n_congr (eo 9 (by omega)) h9, fun k hk => ?_, fun j k hj hk e => ?_, ?_⟩
  · rw [e2, show rf_of w' s 1 = nI v from e1]; exact rf_n_mk hv (by omega)
  · rw [e2] at hj; exact rf_n_congr (eo _ (by omega)) (hw j hj)
  · rw [ek] at hk; rw [eM]; exact rf_n_congr (eo _ (by omega)) (hl k hk)
  · rw [ek] at hj hk; rw [el, el] at e; exact hd j k hj hk e
  · rw [eo 22 (by omega), eM]; exact hb
theorem rf_goon_ok {w : rf_W} (hI : rf_I w) : ∀ n, n ≤ rf_S w → rf_I (rf_goon w n) ∧ rf_Eq w (rf_goon w n)
  | 0, _ => ⟨hI, rf_Eq.rf⟩
  | n + 1, hn => by
    obtain ⟨i1, i2⟩ := rf_goon_ok hI n (by omega)
    have hs : n < rf_S (rf_goon w n) := by rw [i2.S]; omega
    have h0 : 0 < rf_ofn (rf_goon w n) n 2 := Nat.lt_of_le_of_lt (Nat.zero_le _) (i1.2.1 n hs).2.2.1.2
    obtain ⟨a, b⟩ := rf_I_at i1 hs (Nat.mod_lt (rf_ofn (rf_goon w n) n 1 + 1) h0)
    exact ⟨a, i2.tr b⟩
theorem rf_shs_ok {w : rf_W} (hI : rf_I w) : ∀ n, n ≤ rf_S w → rf_I (rf_shs w n) ∧ rf_Eq w (rf_shs w n)
  | 0, _ => ⟨hI, rf_Eq.rf⟩
  | n + 1, hn => by
    obtain ⟨i1, i2⟩ := rf_shs_ok hI n (by omega)
    obtain ⟨a, b⟩ := rf_I_shoot (s := n) i1 (by rw [i2.S]; omega)
    exact ⟨a, i2.tr b⟩
theorem rf_rds_ok {w : rf_W} (hI : rf_I w) : ∀ n, n ≤ rf_S w → rf_I (rf_rds w n) ∧ rf_Eq w (rf_rds w n)
  | 0, _ => ⟨hI, rf_Eq.rf⟩
  | n + 1, hn => by
    obtain ⟨i1, i2⟩ := rf_rds_ok hI n (by omega)
    rw [rf_rds]
    split
    · obtain ⟨a, b, -⟩ := rf_I_read (s := n) i1
      exact ⟨a, i2.tr b⟩
    · exact ⟨i1, i2⟩
theorem rf_I_hour {w : rf_W} (hI : rf_I w) : rf_I (rf_hour w) ∧ rf_Eq w (rf_hour w) := by
  obtain ⟨a1, a2⟩ := rf_goon_ok hI (rf_S w) (Nat.le_refl _)
  obtain ⟨b1, b2⟩ := rf_shs_ok a1 (rf_S w) (by rw [a2.S]; exact Nat.le_refl _)
  obtain ⟨c1, c2⟩ := rf_rds_ok b1 (rf_S w) (by rw [b2.S, a2.S]; exact Nat.le_refl _)
  exact ⟨rf_I_num c1 (fun a h _ _ _ => rf_upd_ne h), (a2.tr (b2.tr c2)).tr ⟨fun a ha => by rw [rf_hour, rf_upd_ne (by omega)], fun a ha => by rw [rf_hour, rf_upd_ne (by omega)]⟩⟩
end INV3
