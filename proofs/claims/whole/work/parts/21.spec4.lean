/-! WHAT THE REFERENCE COMPUTES, fourth part -/
section SPEC4
def rf_pl2 (w : rf_W) (s : Nat) (x : Int32) : Int32 := rf_of w s (3 + rf_md (rf_of w s 1 + x) (rf_ofn w s 2))
def rf_falls (w : rf_W) (known : Int32) (m : Nat) : Int32 := rf_pc (rf_usable w known) - rf_pc (rf_usable w (known &&& ((nI 1 <<< (nI m &&& 31)) ^^^ (-1))))
def rf_tgt (w : rf_W) (foes : Int32) : Nat → Nat
  | 0 => 0
  | o + 1 => if am_bt foes o = true ∧ 0 < rf_kn w o ∧ (rf_tgt w foes o = 0 ∨ rf_kn w (rf_tgt w foes o - 1) < rf_kn w o) then o + 1 else rf_tgt w foes o
theorem rf_tgt_yes {w : rf_W} {foes : Int32} {o : Nat} (h : am_bt foes o = true ∧ 0 < rf_kn w o ∧ (rf_tgt w foes o = 0 ∨ rf_kn w (rf_tgt w foes o - 1) < rf_kn w o)) : nI o = am_oi (rf_tgt w foes (o + 1)) := by rw [rf_tgt, if_pos h]; exact (am_oi_s _).symm
theorem rf_tgt_no {w : rf_W} {foes : Int32} {o : Nat} (h : ¬ (am_bt foes o = true ∧ 0 < rf_kn w o ∧ (rf_tgt w foes o = 0 ∨ rf_kn w (rf_tgt w foes o - 1) < rf_kn w o))) : am_oi (rf_tgt w foes o) = am_oi (rf_tgt w foes (o + 1)) := by rw [rf_tgt, if_neg h]
theorem rf_tgt_le (w : rf_W) (foes : Int32) : ∀ o, rf_tgt w foes o ≤ o
  | 0 => Nat.le_refl 0
  | o + 1 => by
    rw [rf_tgt]
    have := rf_tgt_le w foes o
    split <;> omega
def rf_target (w : rf_W) (s : Nat) : Nat := if rf_use w s = 0 then 0 else rf_tgt w (rf_sideIn w (nI 1 - rf_of w s 0) (rf_pl w s)) (rf_S w)
def rf_tk (w : rf_W) (known : Int32) : Nat → Nat
  | 0 => 0
  | m + 1 => if am_bt known m = true ∧ (rf_tk w known m = 0 ∨ rf_falls w known (rf_tk w known m - 1) < rf_falls w known m) then m + 1 else rf_tk w known m
theorem rf_tk_yes {w : rf_W} {k : Int32} {m : Nat} (h : am_bt k m = true ∧ (rf_tk w k m = 0 ∨ rf_falls w k (rf_tk w k m - 1) < rf_falls w k m)) : nI m = am_oi (rf_tk w k (m + 1)) := by rw [rf_tk, if_pos h]; exact (am_oi_s _).symm
theorem rf_tk_no {w : rf_W} {k : Int32} {m : Nat} (h : ¬ (am_bt k m = true ∧ (rf_tk w k m = 0 ∨ rf_falls w k (rf_tk w k m - 1) < rf_falls w k m))) : am_oi (rf_tk w k m) = am_oi (rf_tk w k (m + 1)) := by rw [rf_tk, if_neg h]
theorem rf_tk_le (w : rf_W) (known : Int32) : ∀ m, rf_tk w known m ≤ m
  | 0 => Nat.le_refl 0
  | m + 1 => by
    rw [rf_tk]
    have := rf_tk_le w known m
    split <;> omega
def rf_takes (w : rf_W) (s : Nat) (good : Bool) : Nat := bif good then rf_tk w (rf_known w s) (rf_M w) else rf_li w s (rf_kn w s - 1) + 1
def rf_can (w : rf_W) (s m : Nat) : Bool := (!am_bt (rf_known w s) m) && (decide (rf_kn w s < 12) && decide (rf_mem w m 1 &&& (rf_use w s ^^^ (-1)) = 0))
theorem rf_can_f1 {w : rf_W} {s m : Nat} (h : am_bt (rf_known w s) m = true) : rf_can w s m = false := by simp only [rf_can, h, Bool.not_true, Bool.false_and]
theorem rf_can_f2 {w : rf_W} {s m : Nat} (h : 12 ≤ rf_kn w s) : rf_can w s m = false := by simp only [rf_can, decide_eq_false (Nat.not_lt.mpr h), Bool.false_and, Bool.and_false]
theorem rf_can_f3 {w : rf_W} {s m : Nat} (h : ¬ rf_mem w m 1 &&& (rf_use w s ^^^ (-1)) = 0) : rf_can w s m = false := by simp only [rf_can, decide_eq_false h, Bool.and_false]
theorem rf_can_t {w : rf_W} {s m : Nat} (h1 : am_bt (rf_known w s) m = false) (h2 : rf_kn w s < 12) (h3 : rf_mem w m 1 &&& (rf_use w s ^^^ (-1)) = 0) : rf_can w s m = true := by simp only [rf_can, h1, decide_eq_true h2, decide_eq_true h3, Bool.not_false, Bool.and_self]
def rf_usersOf (w : rf_W) (side : Int32) (m : Nat) : Int32 := rf_users w m &&& rf_sideOf w side
def rf_lostOf (w : rf_W) (side : Nat) : Int32 := rf_set (fun m => am_bt (w (11 + side)) m && decide (rf_usersOf w (nI side) m = 0)) (rf_M w)
def rf_shn (w : rf_W) (s m : Nat) : Nat → Nat → Nat
  | 0, n => n
  | f + 1, n => if am_bt (rf_usable w (rf_first w s (rf_kn w s - n))) m = true then rf_shn w s m f (n + 1) else n
theorem rf_usa_0 (w : rf_W) : ∀ m, rf_usa w 0 m = 0
  | 0 => rfl
  | m + 1 => by rw [rf_usa, rf_usa_0 w m, am_bt_0, if_neg (fun z => Bool.false_ne_true z.1)]; rfl
theorem rf_first_0 (w : rf_W) (s : Nat) : rf_first w s 0 = 0 := by rw [rf_first, Nat.min_zero]; rfl
theorem rf_usable_0 (w : rf_W) : rf_usable w 0 = 0 := rf_usa_0 w _
def rf_shots (w : rf_W) (s m : Nat) (good : Bool) : Nat := if am_bt (rf_use w s) m = true then (bif good then 1 else rf_shn w s m (rf_kn w s - 1) 1) else 0
def rf_sof (w : rf_W) (s : Nat) (cards : Int32) : Nat → Int32
  | 0 => 0
  | k + 1 => rf_sof w s cards k ||| (if am_bt cards k = true then nI 1 <<< (nI (rf_li w s k) &&& 31) else nI 0)
def rf_setOf (w : rf_W) (s : Nat) (cards : Int32) : Int32 := rf_sof w s cards (rf_kn w s)
def rf_many (w : rf_W) (a b : Nat) : Bool := decide (7 < rf_kn w a) || decide (7 < rf_kn w b)
def rf_pe (w : rf_W) (set : Int32) : Nat → Bool
  | 0 => true
  | m + 1 => rf_pe w set m && (!am_bt set m || decide (rf_mem w m 2 &&& set = 0))
def rf_peace (w : rf_W) (set : Int32) : Bool := rf_pe w set (rf_M w)
def rf_ub (w : rf_W) (side : Int32) : Nat → Int32
  | 0 => nI 0
  | s + 1 => rf_ub w side s ||| (if rf_of w s 0 = side then rf_use w s else nI 0)
def rf_usableBy (w : rf_W) (side : Int32) : Int32 := rf_ub w side (rf_S w)
def rf_agrees (w : rf_W) : Int32 := rf_usableBy w (nI 0) &&& rf_usableBy w (nI 1)
def rf_wa (w : rf_W) (s : Nat) (place : Int32) : Nat → Bool
  | 0 => false
  | k + 1 => rf_wa w s place k || decide (rf_pl2 w s (-(nI k)) = place)
def rf_was (w : rf_W) (s : Nat) (place : Int32) : Bool := rf_wa w s place (min (rf_nat (w 5) + 1) 6)
def rf_ak (w : rf_W) : Nat → Nat
  | 0 => 0
  | s + 1 => rf_ak w s + rf_kn w s
theorem rf_ak_le (w : rf_W) : ∀ n, (∀ s, s < n → rf_kn w s < 13) → rf_ak w n ≤ 12 * n
  | 0, _ => Nat.le_refl 0
  | n + 1, h => by
    have h1 := rf_ak_le w n (fun s hs => h s (Nat.lt_succ_of_lt hs))
    have h2 := h n (Nat.lt_succ_self n)
    rw [rf_ak]
    omega
def rf_au (w : rf_W) (sides : Int32) : Nat → Int32
  | 0 => nI 0
  | s + 1 => rf_au w sides s + (if am_bt sides (rf_ofn w s 0) = true then rf_pc (rf_use w s) else nI 0)
end SPEC4
