/-! WHAT THE REFERENCE COMPUTES, as functions of its world w (a row of numbers); and what holds of a world -/
section SPEC
def rf_nat (x : Int32) : Nat := x.toNatClampNeg
theorem rf_nat_nI {n : Nat} (h : n < 2147483648) : rf_nat (nI n) = n := nI_clamp h
abbrev rf_W : Type := Nat → Int32
def rf_M (w : rf_W) : Nat := rf_nat (w 0)
def rf_S (w : rf_W) : Nat := rf_nat (w 1)
def rf_O (w : rf_W) : Nat := rf_nat (w 2)
def rf_of (w : rf_W) (s k : Nat) : Int32 := w (61 + 23 * s + k)
def rf_ofn (w : rf_W) (s k : Nat) : Nat := rf_nat (rf_of w s k)
def rf_mem (w : rf_W) (m k : Nat) : Int32 := w (13 + 3 * m + k)
def rf_ord (w : rf_W) (o k : Nat) : Int32 := w (291 + 2 * o + k)
def rf_fld (w : rf_W) (f k : Nat) : Int32 := w (311 + 3 * f + k)
def rf_log (w : rf_W) (a k : Nat) : Int32 := w (431 + 5 * a + k)
def rf_kn (w : rf_W) (s : Nat) : Nat := rf_ofn w s 9
def rf_li (w : rf_W) (s k : Nat) : Nat := rf_ofn w s (10 + k)
def rf_pl (w : rf_W) (s : Nat) : Int32 := rf_of w s (3 + rf_ofn w s 1)
def rf_n (x : Int32) (b : Nat) : Prop := x = nI (rf_nat x) ∧ rf_nat x < b
/-- a soldier of the world -/
def rf_Is (w : rf_W) (s : Nat) : Prop :=
  rf_n (rf_of w s 0) 2 ∧ rf_n (rf_of w s 2) 7 ∧ rf_n (rf_of w s 1) (rf_ofn w s 2) ∧ (∀ j, j < rf_ofn w s 2 → rf_n (rf_of w s (3 + j)) 8) ∧
  rf_n (rf_of w s 9) 13 ∧ (∀ k, k < rf_kn w s → rf_n (rf_of w s (10 + k)) (rf_M w)) ∧ (∀ j k, j < rf_kn w s → k < rf_kn w s → rf_li w s j = rf_li w s k → j = k) ∧ am_lo (rf_of w s 22) (rf_M w)
/-- the counts -/
def rf_Cn (w : rf_W) : Prop := rf_n (w 0) 17 ∧ rf_n (w 1) 11 ∧ rf_n (w 2) 11
def rf_okN (x : Int32) (n : Nat) : Bool := decide (nI 0 ≤ x) && decide (x ≤ nI n - nI 1)
def rf_in (v low high : Int32) : Bool := decide (low ≤ v) && decide (v ≤ high)
theorem rf_in_lt {v l h : Int32} (q : v < l) : rf_in v l h = false := by
  simp only [rf_in, Bool.and_eq_false_iff, decide_eq_false_iff_not]
  exact Or.inl (Int32.not_le.mpr q)
theorem rf_in_gt {v l h : Int32} (q : h < v) : rf_in v l h = false := by
  simp only [rf_in, Bool.and_eq_false_iff, decide_eq_false_iff_not]
  exact Or.inr (Int32.not_le.mpr q)
theorem rf_in_ok {v l h : Int32} (q : ¬ v < l) (q2 : ¬ h < v) : rf_in v l h = true := by
  simp only [rf_in, Bool.and_eq_true, decide_eq_true_eq]
  exact ⟨Int32.not_lt.mp q, Int32.not_lt.mp q2⟩
theorem rf_okN_t {x : Int32} {n : Nat} (hn : n < 1073741824) : rf_okN x n = true ↔ ∃ k, k < n ∧ x = nI k := by
  simp only [rf_okN, Bool.and_eq_true, decide_eq_true_eq]
  have h2 : (nI n - nI 1).toInt = (n : Int) - 1 := pk_sub_toInt (by omega) (by decide)
  rw [nI_0, Int32.le_iff_toInt_le, Int32.le_iff_toInt_le, h2]
  constructor
  · intro ⟨h0, h1⟩
    have hz : (0 : Int32).toInt = 0 := by decide
    rw [hz] at h0
    refine ⟨x.toInt.toNat, by omega, ?_⟩
    apply Int32.toInt_inj.mp
    rw [nI_toInt (by omega)]
    omega
  · rintro ⟨k, hk, rfl⟩
    have hz : (0 : Int32).toInt = 0 := by decide
    rw [nI_toInt (by omega), hz]
    omega
def rf_usa (w : rf_W) (known : Int32) : Nat → Int32
  | 0 => 0
  | m + 1 => rf_usa w known m ||| (if am_bt known m = true ∧ rf_mem w m 1 &&& (rf_usa w known m ^^^ (-1)) = 0 then nI 1 <<< (nI m &&& 31) else nI 0)
def rf_usable (w : rf_W) (known : Int32) : Int32 := rf_usa w known (rf_M w)
def rf_bits (f : Nat → Nat) : Nat → Int32
  | 0 => 0
  | n + 1 => rf_bits f n ||| (nI 1 <<< (nI (f n) &&& 31))
def rf_first (w : rf_W) (s n : Nat) : Int32 := rf_bits (rf_li w s) (min (rf_kn w s) n)
def rf_known (w : rf_W) (s : Nat) : Int32 := rf_first w s 12
def rf_use (w : rf_W) (s : Nat) : Int32 := rf_usable w (rf_known w s)
/-- the bits of the numbers below n with p -/
def rf_set (p : Nat → Bool) : Nat → Int32
  | 0 => 0
  | n + 1 => rf_set p n ||| (if p n = true then nI 1 <<< (nI n &&& 31) else nI 0)
def rf_sideIn (w : rf_W) (side place : Int32) : Int32 := rf_set (fun s => decide (rf_of w s 0 = side) && decide (rf_pl w s = place)) (rf_S w)
end SPEC
