/-! DUELS are a race: the table of who wins, by the numbers of what needs nothing -/
section SPEC16
theorem am_shl1 {k : Nat} (hk : k < 31) : nI 1 <<< (nI k &&& 31) = nI (2 ^ k) := by
  apply am_ext
  intro j hj
  rw [am_bt_1 (by omega) hj, am_bt_nI hj, Nat.testBit_two_pow]
  by_cases h : j = k
  · subst h; simp
  · rw [decide_eq_false h, decide_eq_false (fun e => h e.symm)]
def rf_pop (a : Nat) : Nat := rf_cnt (fun k => am_bt (nI a) k) 7
theorem rf_pop_eq {a : Nat} (h : a < 128) : rf_pc (nI a) = nI (rf_pop a) := by
  have : ∀ a, a < 128 → rf_pc (nI a) = nI (rf_pop a) := by decide +kernel
  exact this a h
theorem rf_pop_le (a : Nat) : rf_pop a ≤ 7 := rf_cnt_le _ 7
theorem rf_cnt_congr {p q : Nat → Bool} : ∀ n, (∀ k, k < n → p k = q k) → rf_cnt p n = rf_cnt q n
  | 0, _ => rfl
  | n + 1, h => by rw [rf_cnt, rf_cnt, rf_cnt_congr n (fun k hk => h k (by omega)), h n (by omega)]
theorem rf_cnt_clear {p : Nat → Bool} {k : Nat} (hp : p k = true) : ∀ n, k < n → rf_cnt (fun j => p j && decide (j ≠ k)) n + 1 = rf_cnt p n
  | 0, h => absurd h (by omega)
  | n + 1, h => by
    rw [rf_cnt, rf_cnt]
    by_cases e : k = n
    · subst e
      rw [rf_cnt_congr (q := p) k (fun j hj => by rw [decide_eq_true (by omega), Bool.and_true]), if_pos hp, if_neg (by simp)]
    · have := rf_cnt_clear hp n (by omega)
      rw [decide_eq_true (show n ≠ k by omega), Bool.and_true]
      omega
theorem rf_cnt_pos {p : Nat → Bool} : ∀ n, 0 < rf_cnt p n → ∃ k, k < n ∧ p k = true
  | 0, h => absurd h (Nat.lt_irrefl 0)
  | n + 1, h => by
    rw [rf_cnt] at h
    by_cases hp : p n = true
    · exact ⟨n, by omega, hp⟩
    · rw [if_neg hp] at h
      obtain ⟨k, h1, h2⟩ := rf_cnt_pos n (by omega)
      exact ⟨k, by omega, h2⟩
theorem rf_cnt_pos' {p : Nat → Bool} : ∀ n k, k < n → p k = true → 0 < rf_cnt p n
  | 0, k, h, _ => absurd h (by omega)
  | n + 1, k, h, hp => by
    rw [rf_cnt]
    by_cases e : k = n
    · subst e; rw [if_pos hp]; omega
    · have := rf_cnt_pos' n k (by omega) hp; omega
/-- without the place k -/
def rf_wo (o k : Nat) : Nat := rf_nat (nI o &&& ((nI 1 <<< (nI k &&& 31)) ^^^ (-1)))
theorem rf_wo_n {o k j : Nat} (hj : j ≤ 16) (ho : o < 2 ^ j) : rf_n (nI o &&& ((nI 1 <<< (nI k &&& 31)) ^^^ (-1))) (2 ^ j) := by
  refine am_lo_n hj (fun i hi => ?_)
  rw [am_bt_and]
  by_cases h32 : i < 32
  · rw [am_bt_nI h32, Nat.testBit_lt_two_pow (Nat.lt_of_lt_of_le ho (Nat.pow_le_pow_right (by decide) hi))]; rfl
  · rw [am_bt_big (by omega)]; rfl
theorem rf_wo_lt {o k j : Nat} (hj : j ≤ 16) (ho : o < 2 ^ j) : rf_wo o k < 2 ^ j := (rf_wo_n hj ho).2
theorem rf_wo_eq {o k : Nat} (ho : o < 128) : nI o &&& ((nI 1 <<< (nI k &&& 31)) ^^^ (-1)) = nI (rf_wo o k) := (rf_wo_n (j := 7) (by omega) ho).1
theorem rf_wo_bt {o k j : Nat} (ho : o < 128) (hk : k < 32) (hj : j < 32) : am_bt (nI (rf_wo o k)) j = (am_bt (nI o) j && decide (j ≠ k)) := by
  rw [← rf_wo_eq ho, am_bt_and, am_bt_not hj, am_bt_1 hk hj]
  congr 1
  by_cases h : j = k
  · subst h; simp
  · rw [decide_eq_false h, decide_eq_true h]; rfl
theorem rf_wo_pop {o k : Nat} (ho : o < 128) (hk : k < 7) (hb : am_bt (nI o) k = true) : rf_pop (rf_wo o k) + 1 = rf_pop o := by
  rw [rf_pop, rf_cnt_congr (q := fun j => am_bt (nI o) j && decide (j ≠ k)) 7 (fun j hj => rf_wo_bt ho (by omega) (by omega))]
  exact rf_cnt_clear (p := fun j => am_bt (nI o) j) hb 7 hk
def rf_D (t m o : Nat) : Nat := (t * 128 + m) * 128 + o
def rf_iwk (wi : rf_W) (t m o : Nat) : Nat → Bool
  | 0 => decide (o = 0)
  | k + 1 => rf_iwk wi t m o k || (am_bt (nI o) k && decide (wi (rf_D (1 - t) (rf_wo o k) m) = 0))
def rf_iw (fi wi : rf_W) (t m o : Nat) : Bool := decide (¬ fi (128 * t + m) = 0) && rf_iwk wi t m o 7
def rf_db (fi : rf_W) (n a : Nat) : Nat → rf_W → rf_W
  | 0, wi => wi
  | b + 1, wi => if rf_pop a + rf_pop b = n then upd (upd (rf_db fi n a b wi) (rf_D 0 a b) (am_b (rf_iw fi (rf_db fi n a b wi) 0 a b))) (rf_D 1 b a) (am_b (rf_iw fi (upd (rf_db fi n a b wi) (rf_D 0 a b) (am_b (rf_iw fi (rf_db fi n a b wi) 0 a b))) 1 b a)) else rf_db fi n a b wi
def rf_da (fi : rf_W) (n B : Nat) : Nat → rf_W → rf_W
  | 0, wi => wi
  | a + 1, wi => rf_db fi n a B (rf_da fi n B a wi)
def rf_dn (fi : rf_W) (A B : Nat) : Nat → rf_W → rf_W
  | 0, wi => wi
  | n + 1, wi => rf_da fi n B A (rf_dn fi A B n wi)
def rf_race (x y : Nat) : Bool := decide (0 < x) && decide (y ≤ x)
theorem am_b_eq0 {b : Bool} : am_b b = 0 ↔ b = false := by cases b <;> decide
theorem rf_iwk_t {wi : rf_W} {t m o : Nat} : ∀ n, rf_iwk wi t m o n = true ↔ o = 0 ∨ ∃ k, k < n ∧ am_bt (nI o) k = true ∧ wi (rf_D (1 - t) (rf_wo o k) m) = 0
  | 0 => by
    rw [rf_iwk, decide_eq_true_eq]
    constructor
    · exact Or.inl
    · rintro (h | ⟨k, hk, _⟩)
      · exact h
      · exact absurd hk (by omega)
  | n + 1 => by
    rw [rf_iwk, Bool.or_eq_true, rf_iwk_t n, Bool.and_eq_true, decide_eq_true_eq]
    constructor
    · rintro ((h | ⟨k, hk, h⟩) | h)
      · exact Or.inl h
      · exact Or.inr ⟨k, by omega, h⟩
      · exact Or.inr ⟨n, by omega, h⟩
    · rintro (h | ⟨k, hk, h⟩)
      · exact Or.inl (Or.inl h)
      · by_cases e : k = n
        · subst e; exact Or.inr h
        · exact Or.inl (Or.inr ⟨k, by omega, h⟩)
theorem rf_bit_ex {o : Nat} (ho : o < 128) (h0 : o ≠ 0) : ∃ k, k < 7 ∧ am_bt (nI o) k = true := by
  have : ∀ o, o < 128 → o ≠ 0 → ∃ k, k < 7 ∧ am_bt (nI o) k = true := by decide +kernel
  exact this o ho h0
/-- one hit more is a race -/
theorem rf_iw_race {fi wi : rf_W} {t m o x y : Nat} {r : Nat → Nat} (ho : o < 128) (hf : fi (128 * t + m) = am_b (decide (0 < x))) (hy : r o = y)
    (hw : ∀ k, k < 7 → am_bt (nI o) k = true → wi (rf_D (1 - t) (rf_wo o k) m) = am_b (rf_race (r (rf_wo o k)) x))
    (hd : ∀ k, k < 7 → am_bt (nI o) k = true → r (rf_wo o k) = y ∨ r (rf_wo o k) + 1 = y) (he : 0 < y → ∃ k, k < 7 ∧ am_bt (nI o) k = true ∧ r (rf_wo o k) + 1 = y) : rf_iw fi wi t m o = rf_race x y := by
  rw [rf_iw, rf_race, hf]
  by_cases hx : 0 < x
  · rw [decide_eq_true hx, decide_eq_true (show ¬ am_b true = 0 by decide), Bool.true_and, Bool.true_and]
    rw [Bool.eq_iff_iff, rf_iwk_t, decide_eq_true_eq]
    constructor
    · rintro (h | ⟨k, hk, hb, hz⟩)
      · rcases Nat.eq_zero_or_pos y with e | e
        · omega
        · obtain ⟨k, hk, hb, _⟩ := he e
          rw [h] at hb
          rw [am_bt_nI (by omega), Nat.zero_testBit] at hb
          exact absurd hb Bool.false_ne_true
      · rw [hw k hk hb, am_b_eq0, rf_race, Bool.and_eq_false_iff, decide_eq_false_iff_not, decide_eq_false_iff_not] at hz
        rcases hd k hk hb with e | e <;> omega
    · intro h
      by_cases h0 : o = 0
      · exact Or.inl h0
      · refine Or.inr ?_
        rcases Nat.eq_zero_or_pos y with e | e
        · obtain ⟨k, hk, hb⟩ := rf_bit_ex ho h0
          refine ⟨k, hk, hb, ?_⟩
          rw [hw k hk hb, am_b_eq0, rf_race, Bool.and_eq_false_iff, decide_eq_false_iff_not]
          rcases hd k hk hb with e2 | e2 <;> exact Or.inl (by omega)
        · obtain ⟨k, hk, hb, e2⟩ := he e
          refine ⟨k, hk, hb, ?_⟩
          rw [hw k hk hb, am_b_eq0, rf_race, Bool.and_eq_false_iff, decide_eq_false_iff_not, decide_eq_false_iff_not]
          exact Or.inr (by omega)
  · rw [decide_eq_false hx]
    rfl
/-- what is known of two sets of cards -/
def rf_Cd (A : Nat) (r : Nat → Nat) : Prop := A ≤ 128 ∧ (∀ a, a < A → ∀ k, k < 7 → am_bt (nI a) k = true → rf_wo a k < A ∧ (r (rf_wo a k) = r a ∨ r (rf_wo a k) + 1 = r a)) ∧ ∀ a, a < A → 0 < r a → ∃ k, k < 7 ∧ am_bt (nI a) k = true ∧ r (rf_wo a k) + 1 = r a
def rf_Rt (r0 r1 : Nat → Nat) (wi : rf_W) (a b : Nat) : Prop := wi (rf_D 0 a b) = am_b (rf_race (r0 a) (r1 b)) ∧ wi (rf_D 1 b a) = am_b (rf_race (r1 b) (r0 a))
section
variable {fi : rf_W} {A B : Nat} {r0 r1 : Nat → Nat}
theorem rf_db_ok (h0 : rf_Cd A r0) (h1 : rf_Cd B r1) (hf0 : ∀ a, a < A → fi a = am_b (decide (0 < r0 a))) (hf1 : ∀ b, b < B → fi (128 + b) = am_b (decide (0 < r1 b))) {n a : Nat} {wi : rf_W} (ha : a < A)
    (hI : ∀ x y, x < A → y < B → rf_pop x + rf_pop y < n → rf_Rt r0 r1 wi x y) (hJ : ∀ x y, x < a → y < B → rf_pop x + rf_pop y = n → rf_Rt r0 r1 wi x y) :
    ∀ b, b ≤ B → (∀ x y, x < A → y < B → rf_pop x + rf_pop y < n → rf_Rt r0 r1 (rf_db fi n a b wi) x y) ∧ (∀ x y, (x < a ∧ y < B) ∨ (x = a ∧ y < b) → rf_pop x + rf_pop y = n → rf_Rt r0 r1 (rf_db fi n a b wi) x y)
  | 0, _ => ⟨hI, fun x y hx hn => by
      rcases hx with hx | hx
      · exact hJ x y hx.1 hx.2 hn
      · exact absurd hx.2 (by omega)⟩
  | b + 1, hb => by
    obtain ⟨i1, i2⟩ := rf_db_ok h0 h1 hf0 hf1 ha hI hJ b (by omega)
    have hA : A ≤ 128 := h0.1
    have hB : B ≤ 128 := h1.1
    rw [rf_db]
    generalize rf_db fi n a b wi = w at i1 i2 ⊢
    by_cases hn : rf_pop a + rf_pop b = n
    · rw [if_pos hn]
      have e0 : rf_iw fi w 0 a b = rf_race (r0 a) (r1 b) := by
        refine rf_iw_race (r := r1) (by omega) (by rw [Nat.mul_zero, Nat.zero_add]; exact hf0 a ha) rfl (fun k hk hbt => ?_) (fun k hk hbt => (h1.2.1 b (by omega) k hk hbt).2) (fun hy => h1.2.2 b (by omega) hy)
        have hp := rf_wo_pop (show b < 128 by omega) hk hbt
        exact (i1 a (rf_wo b k) ha (h1.2.1 b (by omega) k hk hbt).1 (by omega)).2
      rw [e0]
      have ho : ∀ x y, x < 128 → y < 128 → ¬ (x = a ∧ y = b) → upd w (rf_D 0 a b) (am_b (rf_race (r0 a) (r1 b))) (rf_D 0 x y) = w (rf_D 0 x y) ∧ upd w (rf_D 0 a b) (am_b (rf_race (r0 a) (r1 b))) (rf_D 1 y x) = w (rf_D 1 y x) := fun x y hx hy hne => by
        constructor
        · exact rf_upd_ne (by unfold rf_D; omega)
        · exact rf_upd_ne (by unfold rf_D; omega)
      have ho1 : upd w (rf_D 0 a b) (am_b (rf_race (r0 a) (r1 b))) (rf_D 0 a b) = am_b (rf_race (r0 a) (r1 b)) := rf_upd_eq
      generalize upd w (rf_D 0 a b) (am_b (rf_race (r0 a) (r1 b))) = w1 at ho ho1 ⊢
      have e1 : rf_iw fi w1 1 b a = rf_race (r1 b) (r0 a) := by
        refine rf_iw_race (r := r0) (by omega) (by rw [Nat.mul_one]; exact hf1 b (by omega)) rfl (fun k hk hbt => ?_) (fun k hk hbt => (h0.2.1 a ha k hk hbt).2) (fun hy => h0.2.2 a ha hy)
        have hp := rf_wo_pop (show a < 128 by omega) hk hbt
        have hlt := (h0.2.1 a ha k hk hbt).1
        have hne : rf_wo a k ≠ a := fun e => by rw [e] at hp; omega
        rw [show 1 - 1 = 0 from rfl, (ho (rf_wo a k) b (by omega) (by omega) (fun z => hne z.1)).1]
        exact (i1 (rf_wo a k) b hlt (by omega) (by omega)).1
      rw [e1]
      have hp1 : ∀ x y, x < 128 → y < 128 → upd w1 (rf_D 1 b a) (am_b (rf_race (r1 b) (r0 a))) (rf_D 0 x y) = w1 (rf_D 0 x y) := fun x y hx hy => rf_upd_ne (by unfold rf_D; omega)
      have hp2 : ∀ x y, x < 128 → y < 128 → ¬ (x = a ∧ y = b) → upd w1 (rf_D 1 b a) (am_b (rf_race (r1 b) (r0 a))) (rf_D 1 y x) = w1 (rf_D 1 y x) := fun x y hx hy hne => rf_upd_ne (by unfold rf_D; omega)
      have hp3 : upd w1 (rf_D 1 b a) (am_b (rf_race (r1 b) (r0 a))) (rf_D 1 b a) = am_b (rf_race (r1 b) (r0 a)) := rf_upd_eq
      generalize upd w1 (rf_D 1 b a) (am_b (rf_race (r1 b) (r0 a))) = w2 at hp1 hp2 hp3 ⊢
      have keep : ∀ x y, x < A → y < B → ¬ (x = a ∧ y = b) → rf_Rt r0 r1 w x y → rf_Rt r0 r1 w2 x y := fun x y hx hy hne hr => by
        refine ⟨?_, ?_⟩
        · rw [hp1 x y (by omega) (by omega), (ho x y (by omega) (by omega) hne).1]; exact hr.1
        · rw [hp2 x y (by omega) (by omega) hne, (ho x y (by omega) (by omega) hne).2]; exact hr.2
      refine ⟨fun x y hx hy hlt => keep x y hx hy (fun z => by rw [z.1, z.2] at hlt; omega) (i1 x y hx hy hlt), fun x y hxy hn2 => ?_⟩
      by_cases e : x = a ∧ y = b
      · rw [e.1, e.2]
        exact ⟨by rw [hp1 a b (by omega) (by omega), ho1], hp3⟩
      · refine keep x y (by omega) (by omega) e (i2 x y ?_ hn2)
        rcases hxy with h | h
        · exact Or.inl h
        · exact Or.inr ⟨h.1, Nat.lt_of_le_of_ne (by have := h.2; omega) (fun z => e ⟨h.1, z⟩)⟩
    · rw [if_neg hn]
      refine ⟨i1, fun x y hxy hn2 => i2 x y ?_ hn2⟩
      rcases hxy with h | h
      · exact Or.inl h
      · refine Or.inr ⟨h.1, ?_⟩
        rcases Nat.lt_or_ge y b with q | q
        · exact q
        · have : y = b := by omega
          rw [h.1, this] at hn2
          exact absurd hn2 hn
theorem rf_da_ok (h0 : rf_Cd A r0) (h1 : rf_Cd B r1) (hf0 : ∀ a, a < A → fi a = am_b (decide (0 < r0 a))) (hf1 : ∀ b, b < B → fi (128 + b) = am_b (decide (0 < r1 b))) {n : Nat} {wi : rf_W}
    (hI : ∀ x y, x < A → y < B → rf_pop x + rf_pop y < n → rf_Rt r0 r1 wi x y) :
    ∀ a, a ≤ A → (∀ x y, x < A → y < B → rf_pop x + rf_pop y < n → rf_Rt r0 r1 (rf_da fi n B a wi) x y) ∧ (∀ x y, x < a → y < B → rf_pop x + rf_pop y = n → rf_Rt r0 r1 (rf_da fi n B a wi) x y)
  | 0, _ => ⟨hI, fun x y hx => absurd hx (by omega)⟩
  | a + 1, ha => by
    obtain ⟨i1, i2⟩ := rf_da_ok h0 h1 hf0 hf1 hI a (by omega)
    rw [rf_da]
    obtain ⟨j1, j2⟩ := rf_db_ok h0 h1 hf0 hf1 (show a < A by omega) i1 i2 B (Nat.le_refl _)
    refine ⟨j1, fun x y hx hy hn => j2 x y ?_ hn⟩
    rcases Nat.lt_or_ge x a with q | q
    · exact Or.inl ⟨q, hy⟩
    · exact Or.inr ⟨by omega, hy⟩
theorem rf_dn_ok (h0 : rf_Cd A r0) (h1 : rf_Cd B r1) (hf0 : ∀ a, a < A → fi a = am_b (decide (0 < r0 a))) (hf1 : ∀ b, b < B → fi (128 + b) = am_b (decide (0 < r1 b))) {wi : rf_W} :
    ∀ n, ∀ x y, x < A → y < B → rf_pop x + rf_pop y < n → rf_Rt r0 r1 (rf_dn fi A B n wi) x y
  | 0, x, y, _, _, h => absurd h (by omega)
  | n + 1, x, y, hx, hy, h => by
    have ih := rf_dn_ok h0 h1 hf0 hf1 (wi := wi) n
    rw [rf_dn]
    obtain ⟨j1, j2⟩ := rf_da_ok h0 h1 hf0 hf1 ih A (Nat.le_refl _)
    rcases Nat.lt_or_ge (rf_pop x + rf_pop y) n with q | q
    · exact j1 x y hx hy q
    · exact j2 x y hx hy (by omega)
theorem rf_dn_15 (h0 : rf_Cd A r0) (h1 : rf_Cd B r1) (hf0 : ∀ a, a < A → fi a = am_b (decide (0 < r0 a))) (hf1 : ∀ b, b < B → fi (128 + b) = am_b (decide (0 < r1 b))) {wi : rf_W} {x y : Nat} (hx : x < A) (hy : y < B) : rf_Rt r0 r1 (rf_dn fi A B 15 wi) x y := by
  have := rf_pop_le x
  have := rf_pop_le y
  exact rf_dn_ok h0 h1 hf0 hf1 15 x y hx hy (by omega)
end
/-! the cards of a soldier -/
def rf_root (w : rf_W) (s k : Nat) : Bool := decide (rf_mem w (rf_li w s k) 1 = 0)
def rf_rc (w : rf_W) (s c : Nat) : Nat := rf_cnt (fun k => am_bt (nI c) k && rf_root w s k) (rf_kn w s)
def rf_fgt (w : rf_W) (s c : Nat) : Bool := decide (¬ rf_usable w (rf_setOf w s (nI c)) = 0)
theorem rf_rc_Cd {w : rf_W} {s : Nat} (h7 : rf_kn w s ≤ 7) : rf_Cd (2 ^ rf_kn w s) (rf_rc w s) := by
  have hp : 2 ^ rf_kn w s ≤ 2 ^ 7 := Nat.pow_le_pow_right (by decide) h7
  have hc : ∀ a k, a < 2 ^ rf_kn w s → k < 7 → rf_rc w s (rf_wo a k) = rf_cnt (fun j => (am_bt (nI a) j && rf_root w s j) && decide (j ≠ k)) (rf_kn w s) := fun a k ha hk => by
    refine rf_cnt_congr _ (fun j hj => ?_)
    rw [rf_wo_bt (by omega) (by omega) (by omega)]
    cases am_bt (nI a) j <;> cases rf_root w s j <;> cases decide (j ≠ k) <;> rfl
  have hk : ∀ a k, a < 2 ^ rf_kn w s → k < 7 → am_bt (nI a) k = true → k < rf_kn w s := fun a k ha hk hb => by
    rcases Nat.lt_or_ge k (rf_kn w s) with q | q
    · exact q
    · rw [am_bt_nI (by omega), Nat.testBit_lt_two_pow (Nat.lt_of_lt_of_le ha (Nat.pow_le_pow_right (by decide) q))] at hb
      exact absurd hb Bool.false_ne_true
  refine ⟨hp, fun a ha k hk7 hb => ⟨rf_wo_lt (by omega) ha, ?_⟩, fun a ha h0 => ?_⟩
  · rw [hc a k ha hk7]
    cases hr : rf_root w s k with
    | true => exact Or.inr (rf_cnt_clear (p := fun j => am_bt (nI a) j && rf_root w s j) (by simp only [hb, hr]; rfl) _ (hk a k ha hk7 hb))
    | false =>
      refine Or.inl (rf_cnt_congr _ (fun j hj => ?_))
      by_cases e : j = k
      · subst e; simp only [hr, Bool.and_false, Bool.false_and]
      · rw [decide_eq_true e, Bool.and_true]
  · obtain ⟨k, hk1, hk2⟩ := rf_cnt_pos _ h0
    simp only [Bool.and_eq_true] at hk2
    exact ⟨k, by omega, hk2.1, by rw [hc a k ha (by omega)]; exact rf_cnt_clear (p := fun j => am_bt (nI a) j && rf_root w s j) (by simp only [hk2.1, hk2.2]; rfl) _ hk1⟩
theorem rf_sof_bt {w : rf_W} {s j : Nat} {cards : Int32} (hj : j < 32) : ∀ n, (∀ k, k < n → rf_li w s k < 32) → (am_bt (rf_sof w s cards n) j = true ↔ ∃ k, k < n ∧ am_bt cards k = true ∧ rf_li w s k = j)
  | 0, _ => by
    rw [rf_sof, am_bt_0]
    constructor
    · intro h; exact absurd h Bool.false_ne_true
    · rintro ⟨k, hk, _⟩; exact absurd hk (by omega)
  | n + 1, hf => by
    have ih := rf_sof_bt (cards := cards) hj n (fun k hk => hf k (by omega))
    rw [rf_sof, am_bt_or, Bool.or_eq_true, ih]
    by_cases hc : am_bt cards n = true
    · rw [if_pos hc, am_bt_1 (hf n (by omega)) hj, decide_eq_true_eq]
      constructor
      · rintro (⟨k, hk, h⟩ | h)
        · exact ⟨k, by omega, h⟩
        · exact ⟨n, by omega, hc, h.symm⟩
      · rintro ⟨k, hk, h⟩
        by_cases e : k = n
        · subst e; exact Or.inr h.2.symm
        · exact Or.inl ⟨k, by omega, h⟩
    · rw [if_neg hc, am_bt_n0]
      constructor
      · rintro (⟨k, hk, h⟩ | h)
        · exact ⟨k, by omega, h⟩
        · exact absurd h Bool.false_ne_true
      · rintro ⟨k, hk, h⟩
        by_cases e : k = n
        · subst e; exact absurd h.1 hc
        · exact Or.inl ⟨k, by omega, h⟩
/-- the bits of what is usable -/
theorem rf_usa_bt {w : rf_W} {known : Int32} {j : Nat} (hj : j < 32) : ∀ m, m ≤ 32 → (am_bt (rf_usa w known m) j = true ↔ j < m ∧ am_bt known j = true ∧ rf_mem w j 1 &&& (rf_usa w known j ^^^ (-1)) = 0)
  | 0, _ => by
    rw [rf_usa, am_bt_0]
    constructor
    · intro h; exact absurd h Bool.false_ne_true
    · rintro ⟨h, _⟩; exact absurd h (by omega)
  | m + 1, hm => by
    have ih := rf_usa_bt (w := w) (known := known) hj m (by omega)
    rw [rf_usa, am_bt_or, Bool.or_eq_true, ih]
    by_cases hc : am_bt known m = true ∧ rf_mem w m 1 &&& (rf_usa w known m ^^^ (-1)) = 0
    · rw [if_pos hc, am_bt_1 (by omega) hj, decide_eq_true_eq]
      constructor
      · rintro (⟨h1, h2⟩ | h)
        · exact ⟨by omega, h2⟩
        · subst h; exact ⟨by omega, hc⟩
      · rintro ⟨h1, h2⟩
        by_cases e : j = m
        · exact Or.inr e
        · exact Or.inl ⟨by omega, h2⟩
    · rw [if_neg hc, am_bt_n0]
      constructor
      · rintro (⟨h1, h2⟩ | h)
        · exact ⟨by omega, h2⟩
        · exact absurd h Bool.false_ne_true
      · rintro ⟨h1, h2⟩
        by_cases e : j = m
        · subst e; exact absurd h2 hc
        · exact Or.inl ⟨by omega, h2⟩
theorem rf_and_0 (x : Int32) : (0 : Int32) &&& x = 0 := am_eq0.mpr (fun k _ => by rw [am_bt_and, am_bt_0]; rfl)
/-- something is usable just if something needs nothing -/
theorem rf_usable_ne {w : rf_W} {known : Int32} (hM : rf_M w ≤ 32) : ¬ rf_usable w known = 0 ↔ ∃ j, j < rf_M w ∧ am_bt known j = true ∧ rf_mem w j 1 = 0 := by
  constructor
  · intro h
    have key : ∀ m, m ≤ rf_M w → (∃ j, j < m ∧ am_bt known j = true ∧ rf_mem w j 1 = 0) ∨ rf_usa w known m = 0 := by
      intro m
      induction m with
      | zero => intro _; exact Or.inr rfl
      | succ m ih =>
        intro hm
        rcases ih (by omega) with ⟨j, h1, h2⟩ | h0
        · exact Or.inl ⟨j, by omega, h2⟩
        · rw [rf_usa, h0]
          by_cases hc : am_bt known m = true ∧ rf_mem w m 1 &&& ((0 : Int32) ^^^ (-1)) = 0
          · refine Or.inl ⟨m, by omega, hc.1, ?_⟩
            have := hc.2
            refine am_eq0.mpr (fun k hk => ?_)
            have h2 := am_eq0.mp this k hk
            rw [am_bt_and, am_bt_not hk, am_bt_0] at h2
            simpa using h2
          · rw [if_neg hc]; exact Or.inr (by decide)
    rcases key (rf_M w) (Nat.le_refl _) with h1 | h1
    · exact h1
    · exact absurd h1 h
  · rintro ⟨j, h1, h2, h3⟩ h
    have := (rf_usa_bt (w := w) (known := known) (j := j) (by omega) (rf_M w) hM).mpr ⟨h1, h2, by rw [h3]; exact rf_and_0 _⟩
    rw [show rf_usa w known (rf_M w) = 0 from h, am_bt_0] at this
    exact Bool.false_ne_true this
theorem rf_fgt_rc {w : rf_W} {s c : Nat} (hI : rf_Is w s) (hM : rf_M w < 17) : rf_fgt w s c = decide (0 < rf_rc w s c) := by
  have hl : ∀ k, k < rf_kn w s → rf_li w s k < rf_M w := fun k hk => rf_li_lt hI hk
  rw [rf_fgt, Bool.eq_iff_iff, decide_eq_true_eq, decide_eq_true_eq, rf_usable_ne (by omega)]
  constructor
  · rintro ⟨j, h1, h2, h3⟩
    obtain ⟨k, k1, k2, k3⟩ := (rf_sof_bt (by omega) _ (fun k hk => by have := hl k hk; omega)).mp h2
    exact rf_cnt_pos' _ k k1 (by simp only [k2, rf_root, k3, h3]; rfl)
  · intro h
    obtain ⟨k, k1, k2⟩ := rf_cnt_pos _ h
    simp only [Bool.and_eq_true, rf_root, decide_eq_true_eq] at k2
    have := hl k k1
    exact ⟨rf_li w s k, this, (rf_sof_bt (by omega) _ (fun k hk => by have := hl k hk; omega)).mpr ⟨k, k1, k2.1, rfl⟩, k2.2⟩
def rf_fl (fi : rf_W) (off : Nat) (p : Nat → Bool) : Nat → rf_W
  | 0 => fi
  | i + 1 => upd (rf_fl fi off p i) (off + i) (am_b (p i))
theorem rf_fl_out {fi : rf_W} {off a : Nat} {p : Nat → Bool} : ∀ n, a < off ∨ off + n ≤ a → rf_fl fi off p n a = fi a
  | 0, _ => rfl
  | n + 1, h => by rw [rf_fl, rf_upd_ne (by omega), rf_fl_out n (by omega)]
theorem rf_fl_in {fi : rf_W} {off a : Nat} {p : Nat → Bool} : ∀ n, a < n → rf_fl fi off p n (off + a) = am_b (p a)
  | 0, h => absurd h (by omega)
  | n + 1, h => by
    rw [rf_fl]
    by_cases e : a = n
    · subst e; exact rf_upd_eq
    · rw [rf_upd_ne (by omega)]; exact rf_fl_in n (by omega)
def rf_dF (w fi : rf_W) (a b : Nat) : rf_W := rf_fl (rf_fl fi 0 (rf_fgt w a) (2 ^ rf_kn w a)) 128 (rf_fgt w b) (2 ^ rf_kn w b)
def rf_dW (w fi wi : rf_W) (a b : Nat) : rf_W := rf_dn (rf_dF w fi a b) (2 ^ rf_kn w a) (2 ^ rf_kn w b) 15 wi
theorem rf_dF_0 {w fi : rf_W} {a b c : Nat} (hI : rf_Is w a) (hM : rf_M w < 17) (h7 : rf_kn w a ≤ 7) (hc : c < 2 ^ rf_kn w a) : rf_dF w fi a b c = am_b (decide (0 < rf_rc w a c)) := by
  have hp : 2 ^ rf_kn w a ≤ 2 ^ 7 := Nat.pow_le_pow_right (by decide) h7
  rw [rf_dF, rf_fl_out _ (by omega)]
  have := rf_fl_in (fi := fi) (off := 0) (p := rf_fgt w a) (2 ^ rf_kn w a) hc
  rw [Nat.zero_add] at this
  rw [this, rf_fgt_rc hI hM]
theorem rf_dF_1 {w fi : rf_W} {a b c : Nat} (hI : rf_Is w b) (hM : rf_M w < 17) (hc : c < 2 ^ rf_kn w b) : rf_dF w fi a b (128 + c) = am_b (decide (0 < rf_rc w b c)) := by
  rw [rf_dF, rf_fl_in _ hc, rf_fgt_rc hI hM]
theorem rf_dW_ok {w fi wi : rf_W} {a b x y : Nat} (hIa : rf_Is w a) (hIb : rf_Is w b) (hM : rf_M w < 17) (ha : rf_kn w a ≤ 7) (hb : rf_kn w b ≤ 7) (hx : x < 2 ^ rf_kn w a) (hy : y < 2 ^ rf_kn w b) : rf_Rt (rf_rc w a) (rf_rc w b) (rf_dW w fi wi a b) x y :=
  rf_dn_15 (rf_rc_Cd ha) (rf_rc_Cd hb) (fun c hc => rf_dF_0 hIa hM ha hc) (fun c hc => rf_dF_1 hIb hM hc) hx hy
def rf_bst (w : rf_W) (a b : Nat) : Nat → Nat
  | 0 => 0
  | k + 1 => if rf_race (rf_rc w b (rf_wo (2 ^ rf_kn w b - 1) k)) (rf_rc w a (2 ^ rf_kn w a - 1)) = false ∧ (rf_bst w a b k = 0 ∨ rf_li w b k < rf_bst w a b k - 1) then rf_li w b k + 1 else rf_bst w a b k
end SPEC16
