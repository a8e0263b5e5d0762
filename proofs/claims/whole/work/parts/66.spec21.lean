/-! THE SUBSETS OF A SET, one after another: the fewest forgotten -/
section SPEC21
theorem am_sub_bv (x u : BitVec 32) : x - u = x + ~~~u + BitVec.setWidth 32 (BitVec.ofBool true) := by
  rw [BitVec.sub_eq_add_neg, BitVec.neg_eq_not_add, ← BitVec.add_assoc]; rfl
theorem am_bt_sub (x u : Int32) {j : Nat} (hj : j < 32) : am_bt (x - u) j = (am_bt x j ^^ ((!am_bt u j) ^^ BitVec.carry j x.toBitVec (~~~u.toBitVec) true)) := by
  show (x - u).toBitVec.getLsbD j = _
  rw [Int32.toBitVec_sub, am_sub_bv, BitVec.getLsbD_add_add_bool hj, BitVec.getLsbD_not, decide_eq_true hj, Bool.true_and]
  rfl
theorem am_bt_inc (k : Nat) {j : Nat} (hj : j < 32) : am_bt (nI (k + 1)) j = (am_bt (nI k) j ^^ BitVec.carry j (nI k).toBitVec 0#32 true) := by
  show (nI (k + 1)).toBitVec.getLsbD j = _
  rw [nI_succ, Int32.toBitVec_add, show (nI k).toBitVec + (1 : Int32).toBitVec = (nI k).toBitVec + 0#32 + BitVec.setWidth 32 (BitVec.ofBool true) by rw [BitVec.add_zero]; rfl, BitVec.getLsbD_add_add_bool hj, BitVec.getLsbD_zero, Bool.false_xor]
  rfl
/-- the k-th subset of u -/
def cl_ss (u : Int32) : Nat → Int32
  | 0 => nI 0
  | k + 1 => (cl_ss u k - u) &&& u
theorem rf_cnt_mono {p : Nat → Bool} {a b : Nat} (h : a ≤ b) : rf_cnt p a ≤ rf_cnt p b := by
  induction b with
  | zero => rw [show a = 0 by omega]; exact Nat.le_refl _
  | succ b ih =>
    by_cases e : a = b + 1
    · rw [e]; exact Nat.le_refl _
    · rw [rf_cnt]; have := ih (by omega); omega
theorem cl_ss_bt {u : Int32} : ∀ k j, j < 32 → am_bt (cl_ss u k) j = (am_bt u j && am_bt (nI k) (rf_cnt (am_bt u) j))
  | 0, j, _ => by
    rw [cl_ss, am_bt_n0]
    rw [am_bt_n0, Bool.and_false]
  | k + 1, j, hj => by
    have ih := cl_ss_bt (u := u) k
    have hr : ∀ j, rf_cnt (am_bt u) j ≤ j := rf_cnt_le _
    have hc : ∀ j, j < 32 → BitVec.carry j (cl_ss u k).toBitVec (~~~u.toBitVec) true = BitVec.carry (rf_cnt (am_bt u) j) (nI k).toBitVec 0#32 true := by
      intro j
      induction j with
      | zero => intro _; rw [rf_cnt, BitVec.carry_zero, BitVec.carry_zero]
      | succ j ih2 =>
        intro hj
        have h2 := ih2 (by omega)
        have h1 := ih j (by omega)
        rw [BitVec.carry_succ, h2, BitVec.getLsbD_not, decide_eq_true (show j < 32 by omega), Bool.true_and, rf_cnt]
        show Bool.atLeastTwo (am_bt (cl_ss u k) j) (!am_bt u j) _ = _
        rw [h1]
        cases hu : am_bt u j with
        | false =>
          rw [if_neg Bool.false_ne_true, Nat.add_zero, Bool.false_and]
          generalize BitVec.carry (rf_cnt (am_bt u) j) (nI k).toBitVec 0#32 true = c
          cases c <;> rfl
        | true =>
          rw [if_pos rfl, BitVec.carry_succ, BitVec.getLsbD_zero, Bool.true_and]
          rfl
    rw [cl_ss, am_bt_and, am_bt_sub _ _ hj, hc j hj, ih j hj, am_bt_inc k (Nat.lt_of_le_of_lt (hr j) hj)]
    cases hu : am_bt u j with
    | false => rw [Bool.and_false, Bool.false_and]
    | true => rw [Bool.and_true, Bool.true_and, Bool.true_and, Bool.not_true, Bool.false_xor]
theorem cl_ss_sub {u : Int32} (k : Nat) : rf_sub (cl_ss u k) u := fun j hj h => by
  rw [cl_ss_bt k j hj, Bool.and_eq_true] at h
  exact h.1
theorem rf_sub_lo {x u : Int32} {n : Nat} (h : rf_sub x u) (hu : am_lo u n) : am_lo x n := fun j hj => by
  by_cases h32 : j < 32
  · cases hx : am_bt x j with
    | false => rfl
    | true => have := h j h32 hx; rw [hu j hj] at this; exact this.symm
  · show x.toBitVec.getLsbD j = false
    exact BitVec.getLsbD_of_ge _ _ (by omega)
theorem rf_tb {x : Int32} (h : am_lo x 16) (j : Nat) : (rf_nat x).testBit j = am_bt x j := by
  obtain ⟨e, h2⟩ := am_lo_n (k := 16) (by decide) h
  by_cases hj : j < 32
  · conv => rhs; rw [e]
    exact (am_bt_nI hj).symm
  · rw [h j (by omega)]
    exact Nat.testBit_lt_two_pow (Nat.lt_of_lt_of_le h2 (Nat.pow_le_pow_right (by decide) (by omega)))
theorem rf_sub_le {x y : Int32} (hy : am_lo y 16) (h : rf_sub x y) : rf_nat x ≤ rf_nat y := by
  have hx := rf_sub_lo h hy
  have e : rf_nat x = rf_nat x &&& rf_nat y := by
    apply Nat.eq_of_testBit_eq
    intro j
    rw [Nat.testBit_and, rf_tb hx, rf_tb hy]
    cases hb : am_bt x j with
    | false => rfl
    | true =>
      have hj : j < 32 := by
        rcases Nat.lt_or_ge j 32 with z | z
        · exact z
        · rw [hx j (by omega)] at hb; exact absurd hb Bool.false_ne_true
      rw [h j hj hb]; rfl
  rw [e]
  exact Nat.and_le_right
theorem cl_ss_all {u z : Int32} (hu : am_lo u 16) (hz : rf_sub z u) : ∃ k, k < 2 ^ rf_bc u ∧ cl_ss u k = z := by
  have key : ∀ n, n ≤ 16 → ∃ k, k < 2 ^ rf_cnt (am_bt u) n ∧ ∀ j, j < n → am_bt u j = true → k.testBit (rf_cnt (am_bt u) j) = am_bt z j := by
    intro n
    induction n with
    | zero => intro _; exact ⟨0, by rw [rf_cnt]; decide, fun j hj => absurd hj (by omega)⟩
    | succ n ih =>
      intro hn
      obtain ⟨k, h1, h2⟩ := ih (by omega)
      rw [rf_cnt]
      cases hb : am_bt u n with
      | false =>
        refine ⟨k, by rw [if_neg Bool.false_ne_true, Nat.add_zero]; exact h1, fun j hj h => ?_⟩
        by_cases e : j = n
        · rw [e, hb] at h; exact absurd h Bool.false_ne_true
        · exact h2 j (by omega) h
      | true =>
        rw [if_pos rfl, Nat.pow_succ]
        cases hzb : am_bt z n with
        | false =>
          refine ⟨k, by omega, fun j hj h => ?_⟩
          by_cases e : j = n
          · rw [e, hzb]; exact Nat.testBit_lt_two_pow h1
          · exact h2 j (by omega) h
        | true =>
          refine ⟨2 ^ rf_cnt (am_bt u) n + k, by omega, fun j hj h => ?_⟩
          by_cases e : j = n
          · rw [e, hzb, Nat.testBit_two_pow_add_eq, Nat.testBit_lt_two_pow h1]; rfl
          · have hlt : rf_cnt (am_bt u) j < rf_cnt (am_bt u) n := by
              have := rf_cnt_mono (p := am_bt u) (show j + 1 ≤ n by omega)
              rw [rf_cnt, if_pos h] at this
              omega
            rw [Nat.testBit_two_pow_add_gt hlt]
            exact h2 j (by omega) h
  obtain ⟨k, h1, h2⟩ := key 16 (Nat.le_refl _)
  refine ⟨k, h1, am_ext (fun j hj => ?_)⟩
  rw [cl_ss_bt k j hj]
  cases hb : am_bt u j with
  | false =>
    cases hzb : am_bt z j with
    | false => rfl
    | true => have := hz j hj hzb; rw [hb] at this; exact this
  | true =>
    have h16 : j < 16 := by
      rcases Nat.lt_or_ge j 16 with q | q
      · exact q
      · rw [hu j q] at hb; exact absurd hb Bool.false_ne_true
    rw [Bool.true_and, am_bt_nI (Nat.lt_of_le_of_lt (rf_cnt_le _ j) hj)]
    exact h2 j h16 hb
theorem rf_mod_bit (x i : Nat) : x % 2 ^ (i + 1) = x % 2 ^ i + 2 ^ i * (x.testBit i).toNat := by
  rw [Nat.mod_pow_succ, Nat.toNat_testBit]
theorem cl_ss_lt {u : Int32} (hu : am_lo u 16) {k l : Nat} (h : k < l) (hl : l < 2 ^ rf_bc u) : rf_nat (cl_ss u k) < rf_nat (cl_ss u l) := by
  have hlo := fun k => rf_sub_lo (cl_ss_sub (u := u) k) hu
  have hb : ∀ k n, n < 16 → (rf_nat (cl_ss u k)).testBit n = (am_bt u n && k.testBit (rf_cnt (am_bt u) n)) := fun k n hn => by
    rw [rf_tb (hlo k), cl_ss_bt k n (by omega), am_bt_nI (Nat.lt_of_le_of_lt (rf_cnt_le _ n) (by omega))]
  have key : ∀ n, n ≤ 16 → k % 2 ^ rf_cnt (am_bt u) n < l % 2 ^ rf_cnt (am_bt u) n → rf_nat (cl_ss u k) % 2 ^ n < rf_nat (cl_ss u l) % 2 ^ n := by
    intro n
    induction n with
    | zero => intro _ h; rw [rf_cnt, Nat.pow_zero, Nat.mod_one, Nat.mod_one] at h; omega
    | succ n ih =>
      intro hn h
      have ih := ih (by omega)
      rw [rf_mod_bit, rf_mod_bit, hb k n (by omega), hb l n (by omega)]
      rw [rf_cnt] at h
      cases hun : am_bt u n with
      | false =>
        rw [hun, if_neg Bool.false_ne_true, Nat.add_zero] at h
        rw [Bool.false_and, Bool.false_and]
        have := ih h
        simpa using this
      | true =>
        rw [hun, if_pos rfl, rf_mod_bit, rf_mod_bit] at h
        rw [Bool.true_and, Bool.true_and]
        have hx : rf_nat (cl_ss u k) % 2 ^ n < 2 ^ n := Nat.mod_lt _ (Nat.pow_pos (by decide))
        have hk2 : l % 2 ^ rf_cnt (am_bt u) n < 2 ^ rf_cnt (am_bt u) n := Nat.mod_lt _ (Nat.pow_pos (by decide))
        cases h1 : k.testBit (rf_cnt (am_bt u) n) <;> cases h2 : l.testBit (rf_cnt (am_bt u) n) <;> rw [h1, h2] at h <;> simp only [Bool.toNat_false, Bool.toNat_true, Nat.mul_zero, Nat.mul_one, Nat.add_zero] at h ⊢
        · exact ih h
        · omega
        · omega
        · have := ih (by omega); omega
  have := key 16 (Nat.le_refl _) (by rw [Nat.mod_eq_of_lt (show l < 2 ^ rf_cnt (am_bt u) 16 from hl), Nat.mod_eq_of_lt (show k < 2 ^ rf_cnt (am_bt u) 16 from Nat.lt_trans h hl)]; exact h)
  rw [Nat.mod_eq_of_lt (am_lo_n (by decide) (hlo k)).2, Nat.mod_eq_of_lt (am_lo_n (by decide) (hlo l)).2] at this
  exact this
theorem rf_bc_sub {x y : Int32} (h : rf_sub x y) : rf_bc y = rf_bc x + rf_bc (y &&& (x ^^^ (-1))) := rf_bc_add (fun k hk => by
  rw [am_bt_and, am_bt_not (by omega)]
  have := h k (by omega)
  cases hx : am_bt x k <;> cases hy : am_bt y k <;> simp_all)
theorem rf_bc_eq {x y : Int32} (hy : am_lo y 16) (h : rf_sub x y) (e : rf_bc x = rf_bc y) : x = y := by
  have h0 : rf_bc (y &&& (x ^^^ (-1))) = 0 := by have := rf_bc_sub h; omega
  refine am_ext (fun j hj => ?_)
  by_cases hx : am_bt x j = true
  · rw [hx, h j hj hx]
  · cases hyj : am_bt y j with
    | false => exact Bool.eq_false_iff.mpr hx
    | true =>
      have h16 : j < 16 := by
        rcases Nat.lt_or_ge j 16 with q | q
        · exact q
        · rw [hy j q] at hyj; exact absurd hyj Bool.false_ne_true
      have := rf_cnt_pos' (p := am_bt (y &&& (x ^^^ (-1)))) 16 j h16 (by rw [am_bt_and, am_bt_not hj, hyj, Bool.eq_false_iff.mpr hx]; rfl)
      rw [rf_bc] at h0
      omega
/-- the class's best after k subsets -/
def cl_bf (w : rf_W) (u : Int32) : Nat → Int32
  | 0 => u
  | k + 1 => if rf_bc (cl_ss u k) < rf_bc (cl_bf w u k) ∧ rf_peace w (cl_lf w u (cl_ss u k) (rf_M w)) = true then cl_ss u k else cl_bf w u k
theorem rf_pe_0 {w : rf_W} {set : Int32} (h : ∀ j, am_bt set j = false) : ∀ n, rf_pe w set n = true
  | 0 => rfl
  | n + 1 => by rw [rf_pe, rf_pe_0 h n, h n]; rfl
theorem cl_lf_bt {w : rf_W} {u f : Int32} {j : Nat} (hj : j < 32) : ∀ n, am_bt (cl_lf w u f n) j = true ↔ am_bt u j = true ∧ am_bt f j = false ∧ ∀ m, m < n → am_bt f m = true → am_bt (rf_rests w m) j = false
  | 0 => by
    rw [cl_lf, am_bt_and, am_bt_not hj, Bool.and_eq_true, Bool.not_eq_true']
    exact ⟨fun h => ⟨h.1, h.2, fun m hm => absurd hm (by omega)⟩, fun h => ⟨h.1, h.2.1⟩⟩
  | n + 1 => by
    have ih := cl_lf_bt (w := w) (u := u) (f := f) hj n
    rw [cl_lf]
    by_cases hf : am_bt f n = true
    · rw [if_pos hf, am_bt_and, am_bt_not hj, Bool.and_eq_true, ih, Bool.not_eq_true']
      constructor
      · rintro ⟨⟨h1, h2, h3⟩, h4⟩
        refine ⟨h1, h2, fun m hm hfm => ?_⟩
        by_cases e : m = n
        · rw [e]; exact h4
        · exact h3 m (by omega) hfm
      · rintro ⟨h1, h2, h3⟩
        exact ⟨⟨h1, h2, fun m hm => h3 m (by omega)⟩, h3 n (by omega) hf⟩
    · rw [if_neg hf, ih]
      constructor
      · rintro ⟨h1, h2, h3⟩
        refine ⟨h1, h2, fun m hm hfm => ?_⟩
        by_cases e : m = n
        · rw [e] at hfm; exact absurd hfm hf
        · exact h3 m (by omega) hfm
      · rintro ⟨h1, h2, h3⟩
        exact ⟨h1, h2, fun m hm => h3 m (by omega)⟩
section
variable {w : rf_W}
/-- what is left by the class's count is what is usable without what is forgotten -/
theorem cl_lf_eq (hI : rf_I w) {known f : Int32} (hf : am_lo f (rf_M w)) : cl_lf w (rf_usable w known) f (rf_M w) = rf_usable w (known &&& (f ^^^ (-1))) := by
  have hM : rf_M w < 17 := hI.1.1.2
  refine am_ext (fun j hj => ?_)
  rw [Bool.eq_iff_iff, cl_lf_bt hj]
  by_cases hjM : j < rf_M w
  · rw [rf_usable_bt hI hjM, rf_usable_bt hI hjM, am_bt_and, am_bt_not hj, Bool.and_eq_true, Bool.not_eq_true']
    constructor
    · rintro ⟨⟨h1, h2⟩, h3, h4⟩
      refine ⟨⟨h1, h3⟩, fun m hm hb => ?_⟩
      have hmj : m < j := by
        rcases Nat.lt_or_ge m j with q | q
        · exact q
        · rw [rf_bears_lo hI hjM m q] at hb; exact absurd hb Bool.false_ne_true
      rw [am_bt_and, am_bt_not hm, h2 m hm hb, Bool.true_and, Bool.not_eq_true']
      cases hfm : am_bt f m with
      | false => rfl
      | true =>
        have := h4 m (by omega) hfm
        rw [rf_rests_bt hI hj, decide_eq_true hjM, decide_eq_true hmj, hb] at this
        exact absurd this (by decide)
    · rintro ⟨⟨h1, h3⟩, h2⟩
      refine ⟨⟨h1, fun m hm hb => ?_⟩, h3, fun m hm hfm => ?_⟩
      · have := h2 m hm hb
        rw [am_bt_and, Bool.and_eq_true] at this
        exact this.1
      · rw [rf_rests_bt hI hj, decide_eq_true hjM, Bool.true_and]
        cases hb : am_bt (rf_bears w j) m with
        | false => rw [Bool.and_false]
        | true =>
          have := h2 m (by omega) hb
          rw [am_bt_and, am_bt_not (by omega), hfm, Bool.not_true, Bool.and_false] at this
          exact absurd this Bool.false_ne_true
  · rw [rf_usable_lo hI j (by omega), rf_usable_lo hI j (by omega)]
    exact ⟨fun h => absurd h.1 Bool.false_ne_true, fun h => absurd h Bool.false_ne_true⟩
/-- forgetting what isn't usable changes nothing -/
theorem rf_usable_cut (hI : rf_I w) {known f : Int32} : rf_usable w (known &&& (f ^^^ (-1))) = rf_usable w (known &&& ((f &&& rf_usable w known) ^^^ (-1))) := by
  have hM : rf_M w < 17 := hI.1.1.2
  refine am_ext (fun j hj => ?_)
  rw [Bool.eq_iff_iff]
  by_cases hjM : j < rf_M w
  · rw [rf_usable_bt hI hjM, rf_usable_bt hI hjM, am_bt_and, am_bt_and, am_bt_not hj, am_bt_not hj, am_bt_and, Bool.and_eq_true, Bool.and_eq_true, Bool.not_eq_true', Bool.not_eq_true']
    constructor
    · rintro ⟨⟨h1, h2⟩, h3⟩
      refine ⟨⟨h1, by rw [h2]; rfl⟩, fun m hm hb => ?_⟩
      have := h3 m hm hb
      rw [am_bt_and, am_bt_not hm, Bool.and_eq_true, Bool.not_eq_true'] at this
      rw [am_bt_and, am_bt_not hm, am_bt_and, this.1, this.2]; rfl
    · rintro ⟨⟨h1, h2⟩, h3⟩
      have hk : rf_sub (rf_bears w j) known := fun m hm hb => by
        have := h3 m hm hb
        rw [am_bt_and, Bool.and_eq_true] at this
        exact this.1
      have hu : am_bt (rf_usable w known) j = true := (rf_usable_bt hI hjM).mpr ⟨h1, hk⟩
      refine ⟨⟨h1, by rw [hu, Bool.and_true] at h2; exact h2⟩, fun m hm hb => ?_⟩
      have hmj : m < j := by
        rcases Nat.lt_or_ge m j with q | q
        · exact q
        · rw [rf_bears_lo hI hjM m q] at hb; exact absurd hb Bool.false_ne_true
      have hum : am_bt (rf_usable w known) m = true := (rf_usable_bt hI (by omega)).mpr ⟨hk m hm hb, fun i hi hbi => hk i hi (rf_bears_tr hI hjM hb i hi hbi)⟩
      have := h3 m hm hb
      rw [am_bt_and, am_bt_not hm, am_bt_and, hum, Bool.and_true] at this
      rw [am_bt_and, am_bt_not hm]
      exact this
  · rw [rf_usable_lo hI j (by omega), rf_usable_lo hI j (by omega)]
def rf_ok (w : rf_W) (known i : Int32) : Prop := rf_peace w (rf_usable w (known &&& (i ^^^ (-1)))) = true
theorem rf_use_sub (hI : rf_I w) {known : Int32} : rf_sub (rf_usable w known) known := fun j hj h => by
  have hjM : j < rf_M w := by
    rcases Nat.lt_or_ge j (rf_M w) with q | q
    · exact q
    · rw [rf_usable_lo hI j q] at h; exact absurd h Bool.false_ne_true
  exact ((rf_usable_bt hI hjM).mp h).1
theorem rf_ok_use (hI : rf_I w) {known : Int32} : rf_ok w known (rf_usable w known) := by
  refine rf_pe_0 (fun j => ?_) _
  cases hb : am_bt (rf_usable w (known &&& (rf_usable w known ^^^ (-1)))) j with
  | false => rfl
  | true =>
    have hM : rf_M w < 17 := hI.1.1.2
    have hjM : j < rf_M w := by
      rcases Nat.lt_or_ge j (rf_M w) with q | q
      · exact q
      · rw [rf_usable_lo hI j q] at hb; exact absurd hb Bool.false_ne_true
    obtain ⟨h1, h2⟩ := (rf_usable_bt hI hjM).mp hb
    rw [am_bt_and, am_bt_not (by omega), Bool.and_eq_true, Bool.not_eq_true'] at h1
    have : am_bt (rf_usable w known) j = true := (rf_usable_bt hI hjM).mpr ⟨h1.1, fun m hm hbm => by
      have := h2 m hm hbm
      rw [am_bt_and, Bool.and_eq_true] at this
      exact this.1⟩
    rw [this] at h1
    exact absurd h1.2 (by decide)
theorem cl_bf_inv (hI : rf_I w) {known : Int32} : ∀ n, rf_sub (cl_bf w (rf_usable w known) n) (rf_usable w known) ∧ rf_ok w known (cl_bf w (rf_usable w known) n) ∧ (cl_bf w (rf_usable w known) n = rf_usable w known ∨ ∃ k, k < n ∧ cl_bf w (rf_usable w known) n = cl_ss (rf_usable w known) k) ∧
    ∀ k, k < n → rf_ok w known (cl_ss (rf_usable w known) k) → rf_bc (cl_bf w (rf_usable w known) n) ≤ rf_bc (cl_ss (rf_usable w known) k) ∧ (rf_bc (cl_bf w (rf_usable w known) n) = rf_bc (cl_ss (rf_usable w known) k) → cl_bf w (rf_usable w known) n = rf_usable w known ∨ ∃ l, l ≤ k ∧ cl_bf w (rf_usable w known) n = cl_ss (rf_usable w known) l)
  | 0 => ⟨fun j _ h => h, rf_ok_use hI, Or.inl rfl, fun k hk => absurd hk (by omega)⟩
  | n + 1 => by
    obtain ⟨h1, h2, h3, h4⟩ := cl_bf_inv hI (known := known) n
    have hok : rf_peace w (cl_lf w (rf_usable w known) (cl_ss (rf_usable w known) n) (rf_M w)) = true ↔ rf_ok w known (cl_ss (rf_usable w known) n) := by
      rw [cl_lf_eq hI (rf_sub_lo (cl_ss_sub n) (rf_usable_lo hI))]; exact Iff.rfl
    rw [cl_bf]
    split
    · rename_i hc
      refine ⟨cl_ss_sub n, hok.mp hc.2, Or.inr ⟨n, by omega, rfl⟩, fun k hk hk2 => ?_⟩
      by_cases e : k = n
      · rw [e]; exact ⟨Nat.le_refl _, fun _ => Or.inr ⟨n, Nat.le_refl _, rfl⟩⟩
      · have := (h4 k (by omega) hk2).1
        exact ⟨by omega, fun z => by omega⟩
    · rename_i hc
      refine ⟨h1, h2, ?_, fun k hk hk2 => ?_⟩
      · rcases h3 with h | ⟨k, hk, h⟩
        · exact Or.inl h
        · exact Or.inr ⟨k, by omega, h⟩
      · by_cases e : k = n
        · subst e
          refine ⟨Nat.not_lt.mp (fun z => hc ⟨z, hok.mpr hk2⟩), fun _ => ?_⟩
          rcases h3 with h | ⟨l, hl, h⟩
          · exact Or.inl h
          · exact Or.inr ⟨l, by omega, h⟩
        · exact h4 k (by omega) hk2
/-- the class's best is the least of the fewest -/
theorem cl_bf_min (hI : rf_I w) {known z : Int32} (hz : rf_sub z (rf_usable w known)) (hok : rf_ok w known z) : rf_bc (cl_bf w (rf_usable w known) (2 ^ rf_bc (rf_usable w known))) ≤ rf_bc z ∧ (rf_bc (cl_bf w (rf_usable w known) (2 ^ rf_bc (rf_usable w known))) = rf_bc z → rf_nat (cl_bf w (rf_usable w known) (2 ^ rf_bc (rf_usable w known))) ≤ rf_nat z) := by
  have hM : rf_M w < 17 := hI.1.1.2
  have hu : am_lo (rf_usable w known) 16 := am_lo_mono (rf_usable_lo hI) (by omega)
  obtain ⟨k, hk, rfl⟩ := cl_ss_all hu hz
  obtain ⟨h1, h2⟩ := (cl_bf_inv hI (known := known) _).2.2.2 k hk hok
  refine ⟨h1, fun e => ?_⟩
  rcases h2 e with h | ⟨l, hl, h⟩
  · rw [h] at e ⊢
    rw [rf_bc_eq hu hz e.symm]
    exact Nat.le_refl _
  · rw [h]
    by_cases hlk : l = k
    · rw [hlk]; exact Nat.le_refl _
    · exact Nat.le_of_lt (cl_ss_lt hu (by omega) hk)
theorem rf_am_inv {known : Int32} (hk16 : am_lo known 16) : ∀ n, n ≤ 65536 → (rf_am w known n = -1 ∧ ∀ i, i < n → ¬ (rf_sub (nI i) known ∧ rf_ok w known (nI i))) ∨
    (∃ a, a < n ∧ rf_am w known n = nI a ∧ rf_sub (nI a) known ∧ rf_ok w known (nI a) ∧ ∀ i, i < n → rf_sub (nI i) known → rf_ok w known (nI i) → rf_bc (nI a) ≤ rf_bc (nI i) ∧ (rf_bc (nI a) = rf_bc (nI i) → a ≤ i))
  | 0, _ => Or.inl ⟨rfl, fun i hi => absurd hi (by omega)⟩
  | n + 1, hn => by
    have ih := rf_am_inv hk16 n (by omega)
    rw [rf_am]
    have hpc : ∀ x, rf_sub x known → rf_pc x = nI (rf_bc x) := fun x hx => rf_pc_bc (rf_sub_lo hx hk16)
    rcases ih with ⟨h1, h2⟩ | ⟨a, h1, h2, h3, h4, h5⟩
    · by_cases hc : rf_sub (nI n) known ∧ rf_ok w known (nI n)
      · rw [if_pos ⟨rf_sub_iff.mpr hc.1, Or.inl (by rw [h1]; decide), hc.2⟩]
        refine Or.inr ⟨n, by omega, rfl, hc.1, hc.2, fun i hi hs ho => ?_⟩
        by_cases e : i = n
        · rw [e]; exact ⟨Nat.le_refl _, fun _ => Nat.le_refl _⟩
        · exact absurd ⟨hs, ho⟩ (h2 i (by omega))
      · rw [if_neg (fun z => hc ⟨rf_sub_iff.mp z.1, z.2.2⟩)]
        refine Or.inl ⟨h1, fun i hi => ?_⟩
        by_cases e : i = n
        · rw [e]; exact hc
        · exact h2 i (by omega)
    · have hb1 := rf_bc_le (nI a)
      have hb2 := rf_bc_le (nI n)
      have hneg : ¬ nI a < 0 := by
        rw [show (0 : Int32) = nI 0 from rfl, nI_ltI (by omega) (by omega)]; omega
      by_cases hc : (rf_sub (nI n) known ∧ rf_ok w known (nI n)) ∧ rf_bc (nI n) < rf_bc (nI a)
      · rw [if_pos ⟨rf_sub_iff.mpr hc.1.1, Or.inr (by rw [h2, hpc _ hc.1.1, hpc _ h3, nI_ltI (by omega) (by omega)]; exact hc.2), hc.1.2⟩]
        refine Or.inr ⟨n, by omega, rfl, hc.1.1, hc.1.2, fun i hi hs ho => ?_⟩
        by_cases e : i = n
        · rw [e]; exact ⟨Nat.le_refl _, fun _ => Nat.le_refl _⟩
        · have := (h5 i (by omega) hs ho).1
          exact ⟨by omega, fun z => by omega⟩
      · rw [if_neg (fun z => hc ⟨⟨rf_sub_iff.mp z.1, z.2.2⟩, by
          rcases z.2.1 with q | q
          · rw [h2] at q; exact absurd q hneg
          · rw [h2, hpc _ (rf_sub_iff.mp z.1), hpc _ h3, nI_ltI (by omega) (by omega)] at q; exact q⟩)]
        refine Or.inr ⟨a, by omega, h2, h3, h4, fun i hi hs ho => ?_⟩
        by_cases e : i = n
        · subst e
          refine ⟨Nat.not_lt.mp (fun z => hc ⟨⟨hs, ho⟩, z⟩), fun _ => by omega⟩
        · exact h5 i (by omega) hs ho
/-- the class's least is the reference's -/
theorem cl_bf_am (hI : rf_I w) {known : Int32} (hk16 : am_lo known 16) : cl_bf w (rf_usable w known) (2 ^ rf_bc (rf_usable w known)) = rf_am w known (rf_nat known + 1) := by
  have hM : rf_M w < 17 := hI.1.1.2
  have hu : am_lo (rf_usable w known) 16 := am_lo_mono (rf_usable_lo hI) (by omega)
  have hkn := (am_lo_n (k := 16) (by decide) hk16).2
  obtain ⟨b1, b2, -, -⟩ := cl_bf_inv hI (known := known) (2 ^ rf_bc (rf_usable w known))
  have bmin := fun z => cl_bf_min hI (known := known) (z := z)
  generalize cl_bf w (rf_usable w known) (2 ^ rf_bc (rf_usable w known)) = B at b1 b2 bmin ⊢
  have bk : rf_sub B known := fun j hj h => rf_use_sub hI j hj (b1 j hj h)
  have hB := am_lo_n (k := 16) (by decide) (rf_sub_lo bk hk16)
  have hBle : rf_nat B < rf_nat known + 1 := Nat.lt_succ_of_le (rf_sub_le hk16 bk)
  have hgood : rf_sub (nI (rf_nat B)) known ∧ rf_ok w known (nI (rf_nat B)) := by rw [← hB.1]; exact ⟨bk, b2⟩
  rcases rf_am_inv (w := w) hk16 (rf_nat known + 1) (by omega) with ⟨-, h2⟩ | ⟨a, h1, h2, h3, h4, h5⟩
  · exact absurd hgood (h2 _ hBle)
  · rw [h2]
    obtain ⟨c1, c2⟩ := h5 _ hBle hgood.1 hgood.2
    rw [← hB.1] at c1 c2
    have hcut : rf_sub (nI a &&& rf_usable w known) (rf_usable w known) := fun j _ h => by
      rw [am_bt_and, Bool.and_eq_true] at h; exact h.2
    have hcut2 : rf_sub (nI a &&& rf_usable w known) (nI a) := fun j _ h => by
      rw [am_bt_and, Bool.and_eq_true] at h; exact h.1
    have hokc : rf_ok w known (nI a &&& rf_usable w known) := by
      rw [rf_ok, ← rf_usable_cut hI]; exact h4
    obtain ⟨d1, d2⟩ := bmin _ hcut hokc
    have hac := rf_bc_sub hcut2
    have ha16 := rf_sub_lo h3 hk16
    have e1 : nI a &&& rf_usable w known = nI a := rf_bc_eq ha16 hcut2 (by omega)
    rw [e1] at d1 d2
    have e2 := d2 (by omega)
    have e3 := c2 (by omega)
    rw [rf_nat_nI (by omega)] at e2
    rw [hB.1, show rf_nat B = a by omega]
end
theorem rf_shl {n : Nat} (h : n ≤ 16) : nI 1 <<< (nI n &&& 31) = nI (2 ^ n) := by
  have : ∀ n, n < 17 → nI 1 <<< (nI n &&& 31) = nI (2 ^ n) := by decide
  exact this n (by omega)
end SPEC21
