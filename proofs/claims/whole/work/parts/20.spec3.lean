/-! WHAT THE REFERENCE COMPUTES, third part: optional places, ways, falls, targets, shots, duels, peace, treaties, logs -/
section SPEC3
def am_oi (b : Nat) : Int32 := nI b - nI 1
theorem am_oi_0 : am_oi 0 = -1 := by decide
theorem am_oi_s (k : Nat) : am_oi (k + 1) = nI k := pk_sub (by omega)
theorem am_oi_p {b : Nat} (h : 0 < b) : am_oi b = nI (b - 1) := pk_sub (by omega)
theorem am_oi_lt {b : Nat} (hb : b < 2147483648) : am_oi b < 0 ↔ b = 0 := by
  constructor
  · intro h
    rcases Nat.eq_zero_or_pos b with e | e
    · exact e
    · rw [am_oi_p e] at h
      exact absurd h (nI_pos (by omega))
  · rintro rfl
    decide
section
variable {M : am_M} {D MC MS : Nat} {X : am_X} {V : am_V} {cs : Nat × Nat} {pc : Nat} {ls ls' : List (Nat × Value)} {st st0 : List Value} {r r2 : am_R} {h h2 : am_H}
theorem am_if_ltO {b : Nat} {off : Int} {tgt : Nat} (C : am_C M D MC MS X) (hd : decode M.2.1 pc = .ok (.ifCond .lt off, 3)) (ht : (pc : Int) + off = (tgt : Int)) (hb : b < 2147483648) (kt : b = 0 → am_G X V cs tgt ls st r h) (kf : 0 < b → am_G X V cs (pc + 3) ls st r h) : am_G X V cs pc ls (.int (am_oi b) :: st) r h :=
  am_if_lt C hd ht (fun q => kt ((am_oi_lt hb).mp q)) (fun q => kf (Nat.pos_of_ne_zero fun e => q ((am_oi_lt hb).mpr e)))
theorem am_if_geO {b : Nat} {off : Int} {tgt : Nat} (C : am_C M D MC MS X) (hd : decode M.2.1 pc = .ok (.ifCond .ge off, 3)) (ht : (pc : Int) + off = (tgt : Int)) (hb : b < 2147483648) (kt : 0 < b → am_G X V cs tgt ls st r h) (kf : b = 0 → am_G X V cs (pc + 3) ls st r h) : am_G X V cs pc ls (.int (am_oi b) :: st) r h :=
  am_if_ge C hd ht (fun q => kt (Nat.pos_of_ne_zero fun e => absurd ((am_oi_lt hb).mpr e) (Int32.not_lt.mpr q))) (fun q => kf ((am_oi_lt hb).mp (Int32.not_le.mp q)))
end
/-- the remainder as the machine has it -/
def rf_rem (x y : Int32) : Int32 := x - x / y * y
theorem rf_rem_toInt (x : Int32) {n : Nat} (h0 : 0 < n) (hn : n < 1073741824) : (rf_rem x (nI n)).toInt = x.toInt.tmod n := by
  have hx1 : -2147483648 ≤ x.toInt := Int32.le_toInt x
  have hx2 : x.toInt < 2147483648 := Int32.toInt_lt x
  have hy : (nI n).toInt = (n : Int) := nI_toInt (by omega)
  have hq : (x / nI n).toInt = x.toInt.tdiv n := by
    rw [Int32.toInt_div, hy]
    have h1 : (x.toInt.tdiv n).natAbs ≤ x.toInt.natAbs := Int.natAbs_tdiv_le_natAbs _ _
    by_cases hn1 : x.toInt = -2147483648 ∧ n = 1
    · rw [hn1.1, hn1.2]; decide
    · apply Int.bmod_eq_of_le
      · omega
      · rcases Int.lt_or_le x.toInt 0 with hneg | hpos
        · have : x.toInt.tdiv n ≤ 0 := by
            rw [show x.toInt = -(-x.toInt) by omega, Int.neg_tdiv]
            have : 0 ≤ (-x.toInt).tdiv n := Int.tdiv_nonneg (by omega) (by omega)
            omega
          omega
        · omega
  have hdm : x.toInt.tdiv n * n + x.toInt.tmod n = x.toInt := by
    have := Int.mul_tdiv_add_tmod x.toInt n
    rw [Int.mul_comm] at this
    exact this
  have ht1 : (x.toInt.tmod n).natAbs ≤ x.toInt.natAbs := by
    rw [Int.natAbs_tmod]
    exact Nat.mod_le _ _
  have ht2 : (x.toInt.tdiv n * n).natAbs ≤ x.toInt.natAbs := by
    rw [Int.natAbs_mul, Int.natAbs_tdiv]
    exact Nat.div_mul_le_self _ _
  have hsgn : 0 ≤ x.toInt → 0 ≤ x.toInt.tmod n ∧ 0 ≤ x.toInt.tdiv n * n := fun hp => ⟨Int.tmod_nonneg _ hp, Int.mul_nonneg (Int.tdiv_nonneg hp (by omega)) (by omega)⟩
  have hm : (x / nI n * nI n).toInt = x.toInt.tdiv n * n := by
    rw [Int32.toInt_mul, hq, hy]
    apply Int.bmod_eq_of_le
    · omega
    · rcases Int.lt_or_le x.toInt 0 with hneg | hpos
      · have h1 : 0 ≤ (-x.toInt).tdiv n * n := Int.mul_nonneg (Int.tdiv_nonneg (by omega) (by omega)) (by omega)
        rw [Int.neg_tdiv, Int.neg_mul] at h1
        omega
      · omega
  rw [rf_rem, Int32.toInt_sub, hm]
  rw [show x.toInt - x.toInt.tdiv n * n = x.toInt.tmod n by omega]
  apply Int.bmod_eq_of_le
  · omega
  · rcases Int.lt_or_le x.toInt 0 with hneg | hpos
    · have h1 : 0 ≤ (-x.toInt).tmod n := Int.tmod_nonneg _ (by omega)
      rw [Int.neg_tmod] at h1
      omega
    · omega
/-- the place on a way of n places, x steps on -/
def rf_md (x : Int32) (n : Nat) : Nat := (x.toInt % (n : Int)).toNat
theorem rf_md_lt (x : Int32) {n : Nat} (h0 : 0 < n) : rf_md x n < n := by
  have h1 := Int.emod_nonneg x.toInt (b := n) (by omega)
  have h2 := Int.emod_lt_of_pos x.toInt (b := n) (by omega)
  rw [rf_md]
  omega
theorem rf_md_eq (x : Int32) {n : Nat} (h0 : 0 < n) (hn : n < 1000) : rf_rem (rf_rem x (nI n) + nI n) (nI n) = nI (rf_md x n) := by
  have h1 := Int.emod_nonneg x.toInt (b := n) (by omega)
  have h2 := Int.emod_lt_of_pos x.toInt (b := n) (by omega)
  have hy : (nI n).toInt = (n : Int) := nI_toInt (by omega)
  have ha := rf_rem_toInt x h0 (by omega)
  have hb1 : x.toInt.tmod n < n := Int.tmod_lt_of_pos _ (by omega)
  have hb2 : -(n : Int) < x.toInt.tmod n := by
    have := Int.tmod_lt_of_pos (-x.toInt) (b := n) (by omega)
    rw [Int.neg_tmod] at this
    omega
  have hs : (rf_rem x (nI n) + nI n).toInt = x.toInt.tmod n + n := by
    rw [Int32.toInt_add, ha, hy]
    apply Int.bmod_eq_of_le <;> omega
  apply Int32.toInt_inj.mp
  rw [rf_rem_toInt _ h0 (by omega), hs, nI_toInt (by rw [rf_md]; omega), rf_md]
  rw [Int.tmod_eq_emod_of_nonneg (by omega), Int.add_emod_right]
  rw [Int.toNat_of_nonneg h1]
  have : (x.toInt.tmod n - x.toInt) % n = 0 := by
    have := Int.mul_tdiv_add_tmod x.toInt n
    rw [show x.toInt.tmod n - x.toInt = n * (-(x.toInt.tdiv n)) by rw [Int.mul_neg]; omega]
    exact Int.mul_emod_right _ _
  have h9 := Int.emod_eq_emod_iff_emod_sub_eq_zero.mpr this
  exact h9
end SPEC3
