/-! the reference's public calls: what is thrown, what is answered -/
section SPEC15
def rf_cb (b : Bool) (k rest : Nat) : Nat := bif b then k else rest
theorem rf_cb_t {b : Bool} {k r : Nat} (h : b = true) : rf_cb b k r = k := by subst h; rfl
theorem rf_cb_f {b : Bool} {k r : Nat} (h : b = false) : rf_cb b k r = r := by subst h; rfl
theorem rf_cb_nt {b : Bool} {k r : Nat} (h : b = false) : rf_cb (!b) k r = k := by subst h; rfl
theorem rf_cb_nf {b : Bool} {k r : Nat} (h : b = true) : rf_cb (!b) k r = r := by subst h; rfl
def rf_ga (c : Nat) (a : Int32) : Int32 := if c = 0 then a else nI 0
def rf_gw (c : Nat) (a b : rf_W) : rf_W := if c = 0 then a else b
def rf_oc (o : rf_W) (c : Nat) : rf_W := upd o 0 (nI c)
theorem am_hA2 {f : am_H} {i j k : Nat} {g : Nat → Int32} (hij : j ≠ i) (hik : k ≠ i) (_hjk : k ≠ j) : am_row (am_row (am_row f i g) j (f j)) k (f k) = am_row f i g := by rw [am_hA hij, am_hA hik]
theorem am_hA3 {f : am_H} {i j k l : Nat} {g : Nat → Int32} (hij : j ≠ i) (hik : k ≠ i) (hil : l ≠ i) : am_row (am_row (am_row (am_row f i g) j (f j)) k (f k)) l (f l) = am_row f i g := by rw [am_hA hij, am_hA hik, am_hA hil]
theorem rf_okN_n {x : Int32} {n : Nat} (hn : n < 1073741824) (h : rf_okN x n = true) : rf_n x n := by
  obtain ⟨k, hk, rfl⟩ := (rf_okN_t hn).mp h
  exact rf_n_mk hk (by omega)
theorem rf_okN_q {x : Int32} {n : Nat} (hn : n < 1073741824) (h : (!rf_okN x n) = false) : rf_n x n := by
  rw [Bool.not_eq_false'] at h
  exact rf_okN_n hn h
theorem rf_in_n {x : Int32} {a b : Nat} (ha : a < 1073741824) (hb : b < 1073741824) (h : rf_in x (nI a) (nI b) = true) : rf_n x (b + 1) ∧ a ≤ rf_nat x := by
  simp only [rf_in, Bool.and_eq_true, decide_eq_true_eq] at h
  obtain ⟨h1, h2⟩ := h
  rw [Int32.le_iff_toInt_le, nI_toInt (by omega)] at h1 h2
  have e : x = nI x.toInt.toNat := by
    apply Int32.toInt_inj.mp
    rw [nI_toInt (by omega)]
    omega
  rw [e]
  exact ⟨rf_n_mk (by omega) (by omega), by rw [rf_nat_nI (by omega)]; omega⟩
theorem rf_in_n0 {x : Int32} {b : Nat} (hb : b < 1073741824) (h : rf_in x (nI 0) (nI b) = true) : rf_n x (b + 1) := (rf_in_n (by decide) hb h).1
theorem rf_side_q {x : Int32} (h : (!rf_in x (nI 0) (nI 1)) = false) : rf_n x 2 := by
  rw [Bool.not_eq_false'] at h
  exact rf_in_n0 (by decide) h
theorem rf_shn_le {w : rf_W} {s m : Nat} : ∀ f n, rf_shn w s m f n ≤ n + f
  | 0, n => Nat.le_refl n
  | f + 1, n => by
    rw [rf_shn]
    split
    · have := rf_shn_le (w := w) (s := s) (m := m) f (n + 1); omega
    · omega
theorem rf_shots_le {w : rf_W} {s m : Nat} {g : Bool} (h : rf_kn w s < 13) : rf_shots w s m g ≤ 12 + 1 := by
  rw [rf_shots]
  split
  · cases g with
    | true => show 1 ≤ 13; omega
    | false => have := rf_shn_le (w := w) (s := s) (m := m) (rf_kn w s - 1) 1; show rf_shn w s m (rf_kn w s - 1) 1 ≤ 13; omega
  · omega
def rf_hrs (w : rf_W) : Nat → rf_W
  | 0 => w
  | n + 1 => rf_hour (rf_hrs w n)
theorem rf_hrs_ok {w : rf_W} (hI : rf_I w) (hL : rf_Lw w) : ∀ n, rf_I (rf_hrs w n) ∧ rf_Eq w (rf_hrs w n) ∧ rf_Lw (rf_hrs w n)
  | 0 => ⟨hI, rf_Eq.rf, hL⟩
  | n + 1 => by
    obtain ⟨a, b, c⟩ := rf_hrs_ok hI hL n
    obtain ⟨d, e⟩ := rf_I_hour a
    exact ⟨d, b.tr e, e.L c⟩
/-- the plan's numbers: best and least as places and one, 0 none -/
def rf_osum (w : rf_W) (side : Int32) (m : Nat) (good : Bool) : Nat → Nat
  | 0 => 0
  | s + 1 => rf_osum w side m good s + (if rf_of w s 0 = side then rf_shots w s m good else 0)
theorem rf_osum_le {w : rf_W} {side : Int32} {m : Nat} {g : Bool} (hI : rf_I w) : ∀ n, n ≤ rf_S w → rf_osum w side m g n ≤ 13 * n
  | 0, _ => Nat.le_refl 0
  | n + 1, h => by
    have h1 := rf_osum_le (side := side) (m := m) (g := g) hI n (by omega)
    have h2 := rf_shots_le (m := m) (g := g) (hI.2.1 n (by omega)).2.2.2.2.1.2
    rw [rf_osum]
    split <;> omega
def rf_ol (w : rf_W) (side : Nat) (good : Bool) : Nat → Nat × Nat
  | 0 => (0, 0)
  | m + 1 => if am_bt (w (11 + side)) m = true ∧ ((rf_ol w side good m).1 = 0 ∨ rf_osum w (nI side) m good (rf_S w) + 1 < (rf_ol w side good m).2) then (m + 1, rf_osum w (nI side) m good (rf_S w) + 1) else rf_ol w side good m
theorem rf_ol_yes {w : rf_W} {side m : Nat} {g : Bool} (h : am_bt (w (11 + side)) m = true ∧ ((rf_ol w side g m).1 = 0 ∨ rf_osum w (nI side) m g (rf_S w) + 1 < (rf_ol w side g m).2)) : rf_ol w side g (m + 1) = (m + 1, rf_osum w (nI side) m g (rf_S w) + 1) := by rw [rf_ol, if_pos h]
theorem rf_ol_no {w : rf_W} {side m : Nat} {g : Bool} (h : ¬ (am_bt (w (11 + side)) m = true ∧ ((rf_ol w side g m).1 = 0 ∨ rf_osum w (nI side) m g (rf_S w) + 1 < (rf_ol w side g m).2))) : rf_ol w side g (m + 1) = rf_ol w side g m := by rw [rf_ol, if_neg h]
theorem rf_ol_le {w : rf_W} {side : Nat} {g : Bool} (hI : rf_I w) : ∀ m, (rf_ol w side g m).1 ≤ m ∧ (rf_ol w side g m).2 ≤ 131 ∧ (0 < (rf_ol w side g m).1 → 0 < (rf_ol w side g m).2)
  | 0 => ⟨Nat.le_refl 0, Nat.zero_le _, fun h => absurd h (Nat.lt_irrefl 0)⟩
  | m + 1 => by
    have ih := rf_ol_le (side := side) (g := g) hI m
    have h1 := rf_osum_le (side := nI side) (m := m) (g := g) hI (rf_S w) (Nat.le_refl _)
    have hS : rf_S w < 11 := hI.1.2.1.2
    by_cases hc : am_bt (w (11 + side)) m = true ∧ ((rf_ol w side g m).1 = 0 ∨ rf_osum w (nI side) m g (rf_S w) + 1 < (rf_ol w side g m).2)
    · rw [rf_ol_yes hc]
      show m + 1 ≤ m + 1 ∧ rf_osum w (nI side) m g (rf_S w) + 1 ≤ 131 ∧ (0 < m + 1 → 0 < rf_osum w (nI side) m g (rf_S w) + 1)
      omega
    · rw [rf_ol_no hc]
      exact ⟨by omega, ih.2.1, ih.2.2⟩
def rf_able (w : rf_W) (side : Int32) (m : Nat) : Nat := rf_cnt (fun s => decide (rf_of w s 0 = side) && rf_can w s m) (rf_S w)
def rf_lack (w : rf_W) (side k m : Nat) : Int32 := rf_max (nI 0) (nI k - rf_pc (rf_usersOf w (nI side) m))
def rf_rv (w : rf_W) (side k : Nat) : Nat → Nat → Int32 → Int32
  | 0, _, x => x
  | f + 1, m, x => if am_bt (w (11 + side)) m = false then rf_rv w side k f (m + 1) x else if rf_lack w side k m ≤ nI (rf_able w (nI side) m) then rf_rv w side k f (m + 1) (x + rf_lack w side k m) else -1
/-- the order that is dearest least: place and one, and its number -/
def rf_dl (w : rf_W) : Nat → Nat × Int32
  | 0 => (0, -1)
  | o + 1 => if (rf_dl w o).1 = 0 ∨ rf_pc (rf_bearsAll w (rf_ord w o 1)) < (rf_dl w o).2 then (o + 1, rf_pc (rf_bearsAll w (rf_ord w o 1))) else rf_dl w o
theorem rf_dl_yes {w : rf_W} {o : Nat} (h : (rf_dl w o).1 = 0 ∨ rf_pc (rf_bearsAll w (rf_ord w o 1)) < (rf_dl w o).2) : rf_dl w (o + 1) = (o + 1, rf_pc (rf_bearsAll w (rf_ord w o 1))) := by rw [rf_dl, if_pos h]
theorem rf_dl_no {w : rf_W} {o : Nat} (h : ¬ ((rf_dl w o).1 = 0 ∨ rf_pc (rf_bearsAll w (rf_ord w o 1)) < (rf_dl w o).2)) : rf_dl w (o + 1) = rf_dl w o := by rw [rf_dl, if_neg h]
theorem rf_dl_le {w : rf_W} : ∀ o, (rf_dl w o).1 ≤ o
  | 0 => Nat.le_refl 0
  | o + 1 => by
    have ih := rf_dl_le (w := w) o
    rw [rf_dl]
    split
    · exact Nat.le_refl _
    · omega
/-- whoever shot most: place and one, and how often -/
def rf_hm (w : rf_W) : Nat → Nat × Nat
  | 0 => (0, 0)
  | s + 1 => if (rf_hm w s).2 < rf_cnt (fun k => decide (rf_log w k 1 = nI s)) (rf_G w) then (s + 1, rf_cnt (fun k => decide (rf_log w k 1 = nI s)) (rf_G w)) else rf_hm w s
theorem rf_hm_yes {w : rf_W} {s : Nat} (h : (rf_hm w s).2 < rf_cnt (fun k => decide (rf_log w k 1 = nI s)) (rf_G w)) : rf_hm w (s + 1) = (s + 1, rf_cnt (fun k => decide (rf_log w k 1 = nI s)) (rf_G w)) := by rw [rf_hm, if_pos h]
theorem rf_hm_no {w : rf_W} {s : Nat} (h : ¬ (rf_hm w s).2 < rf_cnt (fun k => decide (rf_log w k 1 = nI s)) (rf_G w)) : rf_hm w (s + 1) = rf_hm w s := by rw [rf_hm, if_neg h]
theorem rf_hm_le {w : rf_W} : ∀ s, (rf_hm w s).1 ≤ s ∧ (rf_hm w s).2 ≤ rf_G w
  | 0 => ⟨Nat.le_refl 0, Nat.zero_le _⟩
  | s + 1 => by
    have ih := rf_hm_le (w := w) s
    have hc := rf_cnt_le (fun k => decide (rf_log w k 1 = nI s)) (rf_G w)
    rw [rf_hm]
    split
    · exact ⟨Nat.le_refl _, hc⟩
    · exact ⟨by omega, ih.2⟩
/-- the first of f places from n on with p -/
def rf_sea (p : Nat → Bool) (v : Nat → Int32) : Nat → Nat → Int32
  | 0, _ => -1
  | f + 1, n => bif p n then v n else rf_sea p v f (n + 1)
theorem rf_sea_t {p : Nat → Bool} {v : Nat → Int32} {f n : Nat} (h : p n = true) : rf_sea p v (f + 1) n = v n := by rw [rf_sea, h]; rfl
theorem rf_sea_f {p : Nat → Bool} {v : Nat → Int32} {f n : Nat} (h : p n = false) : rf_sea p v (f + 1) n = rf_sea p v f (n + 1) := by rw [rf_sea, h]; rfl
/-! talk -/
theorem rf_pl2_n {w : rf_W} {s : Nat} {x : Int32} (hI : rf_Is w s) : rf_n (rf_pl2 w s x) 8 := by
  obtain ⟨h0, h2, h1, hw, -⟩ := hI
  have h0 : 0 < rf_ofn w s 2 := Nat.lt_of_le_of_lt (Nat.zero_le _) h1.2
  exact hw _ (rf_md_lt _ h0)
def rf_p2n (w : rf_W) (s h : Nat) : Nat := rf_nat (rf_pl2 w s (nI h))
def rf_pls (w : rf_W) (talk : Int32) (h : Nat) : Nat → Int32
  | 0 => nI 0
  | s + 1 => rf_pls w talk h s ||| (if am_bt talk s = true then nI 1 <<< (nI (rf_p2n w s h) &&& 31) else nI 0)
def rf_hd (w : rf_W) (side places heard : Int32) (h : Nat) : Nat → Int32
  | 0 => heard
  | s + 1 => rf_hd w side places heard h s ||| (if rf_of w s 0 = side ∧ am_bt places (rf_p2n w s h) = true then nI 1 <<< (nI s &&& 31) else nI 0)
def rf_hr (w : rf_W) (first side silent : Int32) : Nat → Int32
  | 0 => first
  | h + 1 => rf_hd w side (rf_pls w (rf_hr w first side silent h &&& (silent ^^^ (-1))) h (rf_S w)) (rf_hr w first side silent h) h (rf_S w)
def rf_mu (w : rf_W) (first side all : Int32) : Nat → Int32
  | 0 => -2
  | i + 1 => if nI i &&& (all ^^^ (-1)) = 0 ∧ (rf_mu w first side all i < 0 ∨ rf_pc (nI i) < rf_pc (rf_mu w first side all i)) ∧ rf_hr w first side (nI i) 13 ≠ all then nI i else rf_mu w first side all i
theorem rf_mu_yes {w : rf_W} {first side all : Int32} {i : Nat} (h : nI i &&& (all ^^^ (-1)) = 0 ∧ (rf_mu w first side all i < 0 ∨ rf_pc (nI i) < rf_pc (rf_mu w first side all i)) ∧ rf_hr w first side (nI i) 13 ≠ all) : rf_mu w first side all (i + 1) = nI i := by rw [rf_mu, if_pos h]
theorem rf_mu_no {w : rf_W} {first side all : Int32} {i : Nat} (h : ¬ (nI i &&& (all ^^^ (-1)) = 0 ∧ (rf_mu w first side all i < 0 ∨ rf_pc (nI i) < rf_pc (rf_mu w first side all i)) ∧ rf_hr w first side (nI i) 13 ≠ all)) : rf_mu w first side all (i + 1) = rf_mu w first side all i := by rw [rf_mu, if_neg h]
def rf_am (w : rf_W) (known : Int32) : Nat → Int32
  | 0 => -1
  | i + 1 => if nI i &&& (known ^^^ (-1)) = 0 ∧ (rf_am w known i < 0 ∨ rf_pc (nI i) < rf_pc (rf_am w known i)) ∧ rf_peace w (rf_usable w (known &&& (nI i ^^^ (-1)))) = true then nI i else rf_am w known i
theorem rf_am_yes {w : rf_W} {known : Int32} {i : Nat} (h : nI i &&& (known ^^^ (-1)) = 0 ∧ (rf_am w known i < 0 ∨ rf_pc (nI i) < rf_pc (rf_am w known i)) ∧ rf_peace w (rf_usable w (known &&& (nI i ^^^ (-1)))) = true) : rf_am w known (i + 1) = nI i := by rw [rf_am, if_pos h]
theorem rf_am_no {w : rf_W} {known : Int32} {i : Nat} (h : ¬ (nI i &&& (known ^^^ (-1)) = 0 ∧ (rf_am w known i < 0 ∨ rf_pc (nI i) < rf_pc (rf_am w known i)) ∧ rf_peace w (rf_usable w (known &&& (nI i ^^^ (-1)))) = true)) : rf_am w known (i + 1) = rf_am w known i := by rw [rf_am, if_neg h]
theorem am_lo_n {x : Int32} {k : Nat} (hk : k ≤ 16) (h : am_lo x k) : rf_n x (2 ^ k) := by
  have h16 : 2 ^ k ≤ 2 ^ 16 := Nat.pow_le_pow_right (by decide) hk
  have e : x = nI (x.toBitVec.toNat % 2 ^ k) := by
    apply am_ext
    intro j hj
    rw [am_bt_nI hj, Nat.testBit_mod_two_pow]
    show x.toBitVec.getLsbD j = (decide (j < k) && x.toBitVec.getLsbD j)
    by_cases hjk : j < k
    · rw [decide_eq_true hjk, Bool.true_and]
    · rw [decide_eq_false hjk, Bool.false_and]; exact h j (by omega)
  have hlt : x.toBitVec.toNat % 2 ^ k < 2 ^ k := Nat.mod_lt _ (Nat.pow_pos (by decide))
  rw [e]
  exact rf_n_mk hlt (by omega)
theorem rf_set_lo {p : Nat → Bool} {n : Nat} (hn : n ≤ 32) : am_lo (rf_set p n) n := by
  have key : ∀ m, m ≤ n → am_lo (rf_set p m) n := by
    intro m
    induction m with
    | zero => intro _; exact am_lo_0 _
    | succ m ih =>
      intro hm
      rw [rf_set]
      refine am_lo_or (ih (by omega)) ?_
      split
      · exact am_lo_bit (by omega) hn
      · exact am_lo_0 _
  exact key n (Nat.le_refl n)
def rf_tr (w : rf_W) (set : Int32) : Nat → Int32
  | 0 => nI 10
  | m + 1 => if am_bt set m = true then rf_min (rf_tr w set m) (rf_min (rf_pc (rf_usersOf w (nI 0) m)) (rf_pc (rf_usersOf w (nI 1) m))) else rf_tr w set m
/-! trials -/
def rf_tf (w : rf_W) (now : Int32) : Nat → Nat
  | 0 => 0
  | k + 1 => if rf_tf w now k = 0 ∧ ¬ now &&& (rf_obeyed (rf_hrs w (k + 1)) 12 ^^^ (-1)) = 0 then k + 2 else rf_tf w now k
theorem rf_tf_le {w : rf_W} {now : Int32} : ∀ k, rf_tf w now k ≤ k + 1
  | 0 => Nat.zero_le _
  | k + 1 => by
    have := rf_tf_le (w := w) (now := now) k
    rw [rf_tf]
    split <;> omega
def rf_sps (w : rf_W) (side n k : Nat) : Int32 := rf_au (rf_hrs (upd w 10 (nI k)) n) (nI 1 <<< (nI side &&& 31)) (rf_S w)
def rf_sp (w : rf_W) (side n : Nat) (most : Bool) : Nat → Int32
  | 0 => -1
  | k + 1 => if rf_sp w side n most k < 0 then rf_sps w side n (k + 1) else bif most then rf_max (rf_sp w side n most k) (rf_sps w side n (k + 1)) else rf_min (rf_sp w side n most k) (rf_sps w side n (k + 1))
theorem rf_cp_back {w w' t : rf_W} (h : rf_Eq w w') : rf_cp w' (rf_cp t w 0 0 731) 0 0 731 = w := by
  funext k
  by_cases hk : k < 731
  · rw [rf_cp_in (by omega) (by omega), rf_cp_in (by omega) (by omega)]; congr 1; omega
  · rw [rf_cp_out (by omega)]; exact h.2 k (by omega)
end SPEC15
