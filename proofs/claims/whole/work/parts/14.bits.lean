/-! BITS of an int: am_bt x k, and what the operations do to them -/
section AMB
def am_bt (x : Int32) (k : Nat) : Bool := x.toBitVec.getLsbD k
theorem am_ext {x y : Int32} (h : ∀ k, k < 32 → am_bt x k = am_bt y k) : x = y := by
  apply Int32.toBitVec_inj.mp
  apply BitVec.eq_of_getLsbD_eq
  exact h
theorem am_bt_and (x y : Int32) (k : Nat) : am_bt (x &&& y) k = (am_bt x k && am_bt y k) := by simp [am_bt]
theorem am_bt_or (x y : Int32) (k : Nat) : am_bt (x ||| y) k = (am_bt x k || am_bt y k) := by simp [am_bt]
theorem am_bt_not {x : Int32} {k : Nat} (hk : k < 32) : am_bt (x ^^^ (-1)) k = !am_bt x k := by
  have h1 : am_bt (-1) k = true := by
    have : ∀ j, j < 32 → am_bt (-1) j = true := by decide
    exact this k hk
  simp only [am_bt, Int32.toBitVec_xor, BitVec.getLsbD_xor] at h1 ⊢
  rw [h1]
  simp
theorem am_bt_0 (k : Nat) : am_bt 0 k = false := by simp [am_bt]
theorem am_bt_n0 (k : Nat) : am_bt (nI 0) k = false := am_bt_0 k
theorem am_bt_big {x : Int32} {k : Nat} (hk : 32 ≤ k) : am_bt x k = false := by simp [am_bt, BitVec.getLsbD_of_ge, hk]
theorem am_s31 {k : Nat} (hk : k < 32) : (nI k &&& 31) = nI k := by
  have : ∀ j, j < 32 → (nI j &&& 31) = nI j := by decide
  exact this k hk
theorem am_smod {k : Nat} (hk : k < 32) : ((nI k).toBitVec.smod 32).toNat = k := by
  have : ∀ j, j < 32 → ((nI j).toBitVec.smod 32).toNat = j := by decide
  exact this k hk
theorem am_bt_nI {n k : Nat} (hk : k < 32) : am_bt (nI n) k = n.testBit k := by
  show (BitVec.ofNat 32 n).getLsbD k = n.testBit k
  rw [BitVec.getLsbD_ofNat, decide_eq_true hk, Bool.true_and]
theorem am_bt_shl {x : Int32} {k j : Nat} (hk : k < 32) (hj : j < 32) : am_bt (x <<< (nI k &&& 31)) j = (!decide (j < k) && am_bt x (j - k)) := by
  rw [am_s31 hk]
  simp only [am_bt, Int32.toBitVec_shiftLeft, BitVec.shiftLeft_eq', am_smod hk, BitVec.getLsbD_shiftLeft, hj, decide_true, Bool.true_and]
theorem am_bt_1 {k j : Nat} (hk : k < 32) (hj : j < 32) : am_bt (nI 1 <<< (nI k &&& 31)) j = decide (j = k) := by
  have : ∀ k, k < 32 → ∀ j, j < 32 → am_bt (nI 1 <<< (nI k &&& 31)) j = decide (j = k) := by decide +kernel
  exact this k hk j hj
theorem am_shr1 (x : Int32) {k : Nat} (hk : k < 32) : ((x >>> (nI k &&& 31)) &&& nI 1) = am_b (am_bt x k) := by
  rw [am_s31 hk]
  have h1 : ∀ j, am_bt (x >>> nI k) j = (if k + j < 32 then am_bt x (k + j) else am_bt (x >>> nI k) j) := by
    intro j
    by_cases hj : k + j < 32
    · rw [if_pos hj]
      simp only [am_bt, Int32.toBitVec_shiftRight, BitVec.sshiftRight_eq', am_smod hk, BitVec.getLsbD_sshiftRight]
      have h32 : j < 32 := by omega
      simp [hj, Nat.not_le.mpr h32]
    · rw [if_neg hj]
  apply am_ext
  intro j hj
  rw [am_bt_and, am_bt_nI hj]
  by_cases h0 : j = 0
  · subst h0
    rw [h1 0, if_pos (by omega)]
    cases hb : am_bt x (k + 0)
    · rfl
    · rfl
  · have hz : Nat.testBit 1 j = false := by
      cases j with
      | zero => exact absurd rfl h0
      | succ j => simp [Nat.testBit_succ]
    rw [hz, Bool.and_false]
    cases am_bt x k
    · exact (am_bt_0 j).symm
    · show false = am_bt (nI 1) j
      rw [am_bt_nI hj, hz]
theorem am_has1 (x : Int32) {k : Nat} (hk : k < 32) : ((x >>> (nI k &&& 31)) &&& nI 1 = nI 1) ↔ am_bt x k = true := by
  rw [am_shr1 x hk]
  cases am_bt x k <;> decide
theorem am_has0 (x : Int32) {k : Nat} (hk : k < 32) : ((x >>> (nI k &&& 31)) &&& nI 1 = 0) ↔ am_bt x k = false := by
  rw [am_shr1 x hk]
  cases am_bt x k <;> decide
/-- a set of numbers below n -/
def am_lo (x : Int32) (n : Nat) : Prop := ∀ k, n ≤ k → am_bt x k = false
theorem am_lo_0 (n : Nat) : am_lo 0 n := fun k _ => am_bt_0 k
theorem am_eq0 {x : Int32} : x = 0 ↔ ∀ k, k < 32 → am_bt x k = false := by
  constructor
  · intro h k _; rw [h]; exact am_bt_0 k
  · intro h; exact am_ext (fun k hk => by rw [h k hk, am_bt_0])
theorem am_sub0 {x y : Int32} : (x &&& (y ^^^ (-1)) = 0) ↔ ∀ k, k < 32 → am_bt x k = true → am_bt y k = true := by
  rw [am_eq0]
  constructor
  · intro h k hk hx
    have := h k hk
    rw [am_bt_and, am_bt_not hk, hx] at this
    simpa using this
  · intro h k hk
    rw [am_bt_and, am_bt_not hk]
    cases hx : am_bt x k
    · rfl
    · rw [h k hk hx]; rfl
end AMB
