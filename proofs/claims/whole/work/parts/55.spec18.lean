/-! BITS COUNTED, what bears and what rests: what the class computes at once is what the reference goes through -/
section SPEC18B
theorem rf_pc_nI {n : Nat} (h : n < 65536) : rf_pc (nI n) = nI (rf_cnt (fun k => am_bt (nI n) k) 16) := by
  rw [rf_pcN_eq h]
  have e := rf_ck2_in 256 (rf_ck1_in 256 rf_ck1_256 (n / 256) (by omega)) (n % 256) (by omega)
  rw [show 256 * (n / 256) + n % 256 = n by omega] at e
  rw [e]
  exact congrArg nI (rf_cnt_congr 16 (fun k hk => (am_bt_nI (by omega)).symm))
/-- how many bits -/
def rf_bc (x : Int32) : Nat := rf_cnt (am_bt x) 16
theorem rf_pc_bc {x : Int32} (h : am_lo x 16) : rf_pc x = nI (rf_bc x) := by
  obtain ⟨e, h2⟩ := am_lo_n (k := 16) (by decide) h
  rw [e, rf_pc_nI h2]
  rfl
theorem rf_bc_le (x : Int32) : rf_bc x ≤ 16 := rf_cnt_le _ 16
theorem rf_cnt_add {p q r : Nat → Bool} : ∀ n, (∀ k, k < n → p k = (q k || r k) ∧ (q k && r k) = false) → rf_cnt p n = rf_cnt q n + rf_cnt r n
  | 0, _ => rfl
  | n + 1, h => by
    have ih := rf_cnt_add n (fun k hk => h k (by omega))
    obtain ⟨h1, h2⟩ := h n (by omega)
    rw [rf_cnt, rf_cnt, rf_cnt, ih, h1]
    cases hq : q n <;> cases hr : r n <;> simp_all <;> omega
/-- the bits of y apart from those of z are the bits of x -/
theorem rf_bc_add {x y z : Int32} (h : ∀ k, k < 16 → am_bt x k = (am_bt y k || am_bt z k) ∧ (am_bt y k && am_bt z k) = false) : rf_bc x = rf_bc y + rf_bc z := rf_cnt_add 16 h
/-! what bears: the least set that holds the needs and the needs of all in it -/
def rf_sub (x y : Int32) : Prop := ∀ k, k < 32 → am_bt x k = true → am_bt y k = true
theorem rf_sub_iff {x y : Int32} : (x &&& (y ^^^ (-1)) = 0) ↔ rf_sub x y := am_sub0
theorem rf_bdn_ok {w : rf_W} (hn : ∀ o, o < rf_M w → am_lo (rf_mem w o 1) o) : ∀ n, n ≤ rf_M w → n ≤ 32 → ∀ b, rf_sub b (rf_bdn w n b) ∧ (∀ k, n ≤ k → am_bt (rf_bdn w n b) k = am_bt b k) ∧ (∀ o, o < n → am_bt (rf_bdn w n b) o = true → rf_sub (rf_mem w o 1) (rf_bdn w n b)) ∧ ∀ y, rf_sub b y → (∀ o, o < n → am_bt y o = true → rf_sub (rf_mem w o 1) y) → rf_sub (rf_bdn w n b) y
  | 0, _, _, b => ⟨fun k _ h => h, fun _ _ => rfl, fun o ho => absurd ho (by omega), fun y hy _ => hy⟩
  | n + 1, hM, h32, b => by
    have hlo := hn n (by omega)
    have hb2 : ∀ k, n ≤ k → am_bt (b ||| (if am_bt b n = true then rf_mem w n 1 else nI 0)) k = am_bt b k := fun k hk => by
      rw [am_bt_or]
      split
      · rw [hlo k hk, Bool.or_false]
      · rw [am_bt_n0, Bool.or_false]
    have hs : rf_sub b (b ||| (if am_bt b n = true then rf_mem w n 1 else nI 0)) := fun k _ h => by rw [am_bt_or, h]; rfl
    obtain ⟨i1, i2, i3, i4⟩ := rf_bdn_ok hn n (by omega) (by omega) (b ||| (if am_bt b n = true then rf_mem w n 1 else nI 0))
    rw [rf_bdn]
    refine ⟨fun k hk h => i1 k hk (hs k hk h), fun k hk => by rw [i2 k (by omega), hb2 k (by omega)], fun o ho h => ?_, fun y hy hc => ?_⟩
    · by_cases e : o = n
      · subst e
        rw [i2 o (Nat.le_refl o), hb2 o (Nat.le_refl o)] at h
        intro k hk hm
        refine i1 k hk ?_
        rw [am_bt_or, if_pos h, hm, Bool.or_true]
      · exact i3 o (by omega) h
    · refine i4 y (fun k hk h => ?_) (fun o ho => hc o (by omega))
      rw [am_bt_or, Bool.or_eq_true] at h
      rcases h with h | h
      · exact hy k hk h
      · by_cases hbn : am_bt b n = true
        · rw [if_pos hbn] at h
          exact hc n (by omega) (hy n (by omega) hbn) k hk h
        · rw [if_neg hbn, am_bt_n0] at h
          exact absurd h Bool.false_ne_true
section
variable {w : rf_W}
theorem rf_bears_needs (hI : rf_I w) {m : Nat} (hm : m < rf_M w) : rf_sub (rf_mem w m 1) (rf_bears w m) := by
  have hM : rf_M w < 17 := hI.1.1.2
  exact (rf_bdn_ok (fun o ho => (hI.2.2.1 o ho).2.1) m (by omega) (by omega) _).1
theorem rf_bears_lo (hI : rf_I w) {m : Nat} (hm : m < rf_M w) : am_lo (rf_bears w m) m := by
  have hM : rf_M w < 17 := hI.1.1.2
  intro k hk
  rw [rf_bears, (rf_bdn_ok (fun o ho => (hI.2.2.1 o ho).2.1) m (by omega) (by omega) _).2.1 k hk]
  exact (hI.2.2.1 m hm).2.1 k hk
theorem rf_bears_cl (hI : rf_I w) {m o : Nat} (hm : m < rf_M w) (ho : am_bt (rf_bears w m) o = true) : rf_sub (rf_mem w o 1) (rf_bears w m) := by
  have hM : rf_M w < 17 := hI.1.1.2
  have hom : o < m := by
    rcases Nat.lt_or_ge o m with h | h
    · exact h
    · rw [rf_bears_lo hI hm o h] at ho; exact absurd ho Bool.false_ne_true
  exact (rf_bdn_ok (fun o ho => (hI.2.2.1 o ho).2.1) m (by omega) (by omega) _).2.2.1 o hom ho
theorem rf_bears_min (hI : rf_I w) {m : Nat} {y : Int32} (hm : m < rf_M w) (h1 : rf_sub (rf_mem w m 1) y) (h2 : ∀ o, o < m → am_bt y o = true → rf_sub (rf_mem w o 1) y) : rf_sub (rf_bears w m) y := by
  have hM : rf_M w < 17 := hI.1.1.2
  exact (rf_bdn_ok (fun o ho => (hI.2.2.1 o ho).2.1) m (by omega) (by omega) _).2.2.2 y h1 h2
theorem rf_bears_tr (hI : rf_I w) {m o : Nat} (hm : m < rf_M w) (ho : am_bt (rf_bears w m) o = true) : rf_sub (rf_bears w o) (rf_bears w m) := by
  have hom : o < m := by
    rcases Nat.lt_or_ge o m with h | h
    · exact h
    · rw [rf_bears_lo hI hm o h] at ho; exact absurd ho Bool.false_ne_true
  exact rf_bears_min hI (by omega) (rf_bears_cl hI hm ho) (fun i _ hi => rf_bears_cl hI hm hi)
/-- usable is what is known with all that bears it -/
theorem rf_usable_bt (hI : rf_I w) {known : Int32} {j : Nat} (hj : j < rf_M w) : am_bt (rf_usable w known) j = true ↔ am_bt known j = true ∧ rf_sub (rf_bears w j) known := by
  have hM : rf_M w < 17 := hI.1.1.2
  have key : ∀ j, j < rf_M w → (am_bt (rf_usable w known) j = true ↔ am_bt known j = true ∧ rf_sub (rf_mem w j 1) (rf_usable w known)) := fun j hj => by
    have hlo := (hI.2.2.1 j hj).2.1
    rw [rf_usable, rf_usa_bt (by omega) _ (by omega), rf_sub_iff]
    constructor
    · rintro ⟨-, h2, h3⟩
      refine ⟨h2, fun k hk hb => ?_⟩
      have hkj : k < j := by
        rcases Nat.lt_or_ge k j with q | q
        · exact q
        · rw [hlo k q] at hb; exact absurd hb Bool.false_ne_true
      have h4 := (rf_usa_bt hk j (by omega)).mp (h3 k hk hb)
      exact (rf_usa_bt hk _ (by omega)).mpr ⟨by omega, h4.2⟩
    · rintro ⟨h2, h3⟩
      refine ⟨hj, h2, fun k hk hb => ?_⟩
      have hkj : k < j := by
        rcases Nat.lt_or_ge k j with q | q
        · exact q
        · rw [hlo k q] at hb; exact absurd hb Bool.false_ne_true
      have h4 := (rf_usa_bt hk _ (by omega)).mp (h3 k hk hb)
      exact (rf_usa_bt hk j (by omega)).mpr ⟨hkj, h4.2⟩
  constructor
  · intro h
    have h1 := (key j hj).mp h
    refine ⟨h1.1, fun k hk hb => ?_⟩
    have hs := rf_bears_min hI hj h1.2 (fun o ho hb2 => ((key o (by omega)).mp hb2).2) k hk hb
    have hkM : k < rf_M w := by
      rcases Nat.lt_or_ge k (rf_M w) with q | q
      · exact q
      · rw [rf_bears_lo hI hj k (by omega)] at hb; exact absurd hb Bool.false_ne_true
    exact ((key k hkM).mp hs).1
  · have strong : ∀ n j, j < n → j < rf_M w → am_bt known j = true ∧ rf_sub (rf_bears w j) known → am_bt (rf_usable w known) j = true := by
      intro n
      induction n with
      | zero => intro j h; exact absurd h (by omega)
      | succ n ih =>
        intro j hjn hjM hh
        refine (key j hjM).mpr ⟨hh.1, fun k hk hb => ?_⟩
        have hlo := (hI.2.2.1 j hjM).2.1
        have hkj : k < j := by
          rcases Nat.lt_or_ge k j with q | q
          · exact q
          · rw [hlo k q] at hb; exact absurd hb Bool.false_ne_true
        have hkb := rf_bears_needs hI hjM k hk hb
        exact ih k (by omega) (by omega) ⟨hh.2 k hk hkb, fun i hi hb2 => hh.2 i hi (rf_bears_tr hI hjM hkb i hi hb2)⟩
    exact strong (j + 1) j (by omega) hj
theorem rf_usable_lo (hI : rf_I w) {known : Int32} : am_lo (rf_usable w known) (rf_M w) := by
  have hM : rf_M w < 17 := hI.1.1.2
  intro k hk
  by_cases h32 : k < 32
  · cases hb : am_bt (rf_usable w known) k with
    | false => rfl
    | true =>
      have := (rf_usa_bt h32 (rf_M w) (by omega)).mp hb
      omega
  · exact am_bt_big (by omega)
/-- the class's way: bit by bit, all that bears it at once -/
def rf_us2 (w : rf_W) (known : Int32) : Int32 := rf_set (fun m => am_bt known m && decide (rf_bears w m &&& (known ^^^ (-1)) = 0)) (rf_M w)
theorem rf_set_bt {p : Nat → Bool} {j : Nat} (hj : j < 32) : ∀ n, n ≤ 32 → (am_bt (rf_set p n) j = (decide (j < n) && p j))
  | 0, _ => by rw [rf_set, am_bt_0]; rfl
  | n + 1, hn => by
    rw [rf_set, am_bt_or, rf_set_bt hj n (by omega)]
    by_cases e : j = n
    · subst e
      rw [decide_eq_false (Nat.lt_irrefl j), decide_eq_true (Nat.lt_succ_self j)]
      by_cases hp : p j = true
      · rw [if_pos hp, am_bt_1 (by omega) hj, hp]; simp
      · rw [if_neg hp, am_bt_n0, Bool.eq_false_iff.mpr hp]; rfl
    · have h2 : am_bt (if p n = true then nI 1 <<< (nI n &&& 31) else nI 0) j = false := by
        split
        · rw [am_bt_1 (by omega) hj, decide_eq_false e]
        · exact am_bt_n0 _
      rw [h2, Bool.or_false]
      congr 1
      exact decide_eq_decide.mpr (by omega)
theorem rf_us2_eq (hI : rf_I w) {known : Int32} : rf_us2 w known = rf_usable w known := by
  have hM : rf_M w < 17 := hI.1.1.2
  refine am_ext (fun j hj => ?_)
  rw [rf_us2, rf_set_bt hj _ (by omega)]
  by_cases hjM : j < rf_M w
  · rw [decide_eq_true hjM, Bool.true_and, Bool.eq_iff_iff, Bool.and_eq_true, decide_eq_true_eq, rf_usable_bt hI hjM, rf_sub_iff]
  · rw [decide_eq_false hjM, rf_usable_lo hI j (by omega)]; rfl
theorem rf_rests_bt (hI : rf_I w) {m o : Nat} (ho : o < 32) : am_bt (rf_rests w m) o = (decide (o < rf_M w) && (decide (m < o) && am_bt (rf_bears w o) m)) := by
  have hM : rf_M w < 17 := hI.1.1.2
  rw [rf_rests, rf_set_bt ho _ (by omega)]
/-- what falls with a memory -/
theorem rf_falls_eq (hI : rf_I w) {known : Int32} {m : Nat} (hm : m < rf_M w) : rf_falls w known m = nI (rf_bc (rf_usable w known &&& (rf_rests w m ||| (nI 1 <<< (nI m &&& 31))))) := by
  have hM : rf_M w < 17 := hI.1.1.2
  have hlo := rf_usable_lo hI (known := known)
  have hlo2 := rf_usable_lo hI (known := known &&& ((nI 1 <<< (nI m &&& 31)) ^^^ (-1)))
  have hadd : rf_bc (rf_usable w known) = rf_bc (rf_usable w known &&& (rf_rests w m ||| (nI 1 <<< (nI m &&& 31)))) + rf_bc (rf_usable w (known &&& ((nI 1 <<< (nI m &&& 31)) ^^^ (-1)))) := by
    refine rf_bc_add (fun k hk => ?_)
    by_cases hkM : k < rf_M w
    · have hu := rf_usable_bt hI (known := known) hkM
      have hu2 := rf_usable_bt hI (known := known &&& ((nI 1 <<< (nI m &&& 31)) ^^^ (-1))) hkM
      have hkn : ∀ i, i < 32 → (am_bt (known &&& ((nI 1 <<< (nI m &&& 31)) ^^^ (-1))) i = true ↔ am_bt known i = true ∧ i ≠ m) := fun i hi => by
        rw [am_bt_and, am_bt_not hi, am_bt_1 (by omega) hi, Bool.and_eq_true, Bool.not_eq_true', decide_eq_false_iff_not]
      have hsub : rf_sub (rf_bears w k) (known &&& ((nI 1 <<< (nI m &&& 31)) ^^^ (-1))) ↔ rf_sub (rf_bears w k) known ∧ am_bt (rf_bears w k) m = false := by
        constructor
        · intro h
          refine ⟨fun i hi hb => ((hkn i hi).mp (h i hi hb)).1, ?_⟩
          cases hb : am_bt (rf_bears w k) m with
          | false => rfl
          | true => exact absurd rfl ((hkn m (by omega)).mp (h m (by omega) hb)).2
        · rintro ⟨h1, h2⟩ i hi hb
          exact (hkn i hi).mpr ⟨h1 i hi hb, fun e => by rw [e, h2] at hb; exact Bool.false_ne_true hb⟩
      rw [hkn k (by omega), hsub] at hu2
      have hr : am_bt (rf_rests w m ||| (nI 1 <<< (nI m &&& 31))) k = (am_bt (rf_bears w k) m || decide (k = m)) := by
        rw [am_bt_or, rf_rests_bt hI (by omega), am_bt_1 (by omega) (by omega), decide_eq_true hkM, Bool.true_and]
        by_cases hmk : m < k
        · rw [decide_eq_true hmk, Bool.true_and]
        · rw [decide_eq_false hmk, Bool.false_and, rf_bears_lo hI hkM m (by omega)]
      rw [am_bt_and, hr]
      cases h1 : am_bt (rf_usable w known) k with
      | false =>
        cases h2 : am_bt (rf_usable w (known &&& ((nI 1 <<< (nI m &&& 31)) ^^^ (-1)))) k with
        | false => exact ⟨rfl, rfl⟩
        | true =>
          obtain ⟨⟨a, _⟩, b, _⟩ := hu2.mp h2
          rw [hu.mpr ⟨a, b⟩] at h1
          exact absurd h1 (by decide)
      | true =>
        obtain ⟨a, b⟩ := hu.mp h1
        by_cases e : k = m
        · have h2 : am_bt (rf_usable w (known &&& ((nI 1 <<< (nI m &&& 31)) ^^^ (-1)))) k = false := Bool.eq_false_iff.mpr (fun z => (hu2.mp z).1.2 e)
          rw [h2, decide_eq_true e, Bool.or_true]; exact ⟨rfl, rfl⟩
        · cases hb : am_bt (rf_bears w k) m with
          | true =>
            have h2 : am_bt (rf_usable w (known &&& ((nI 1 <<< (nI m &&& 31)) ^^^ (-1)))) k = false := Bool.eq_false_iff.mpr (fun z => by have := (hu2.mp z).2.2; rw [hb] at this; exact absurd this (by decide))
            rw [h2]; exact ⟨rfl, rfl⟩
          | false =>
            rw [hu2.mpr ⟨⟨a, e⟩, b, hb⟩, decide_eq_false e]; exact ⟨rfl, rfl⟩
    · rw [am_bt_and, hlo k (by omega), hlo2 k (by omega)]; exact ⟨rfl, rfl⟩
  have hm16 : am_lo (rf_usable w known) 16 := am_lo_mono hlo (by omega)
  have hm16' : am_lo (rf_usable w (known &&& ((nI 1 <<< (nI m &&& 31)) ^^^ (-1)))) 16 := am_lo_mono hlo2 (by omega)
  rw [rf_falls, rf_pc_bc hm16, rf_pc_bc hm16', hadd]
  rw [show ∀ a b : Nat, nI (a + b) - nI b = nI (a + b - b) from fun a b => pk_sub (by omega), Nat.add_sub_cancel]
end
end SPEC18B
