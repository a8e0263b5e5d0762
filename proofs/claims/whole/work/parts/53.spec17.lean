/-! whose the gathered memories can be -/
section SPEC17
def rf_wh (w t : rf_W) (place : Int32) (k : Nat) : Int32 := rf_set (fun s => !am_bt (rf_known w s) (rf_nat (t k)) && rf_was w s place) (rf_S w)
def rf_wr (base : rf_W) (f : Nat → Int32) : Nat → rf_W
  | 0 => base
  | k + 1 => upd (rf_wr base f k) k (f k)
theorem rf_wr_in {base : rf_W} {f : Nat → Int32} {a : Nat} : ∀ n, a < n → rf_wr base f n a = f a
  | 0, h => absurd h (by omega)
  | n + 1, h => by
    rw [rf_wr]
    by_cases e : a = n
    · subst e; exact rf_upd_eq
    · rw [rf_upd_ne e]; exact rf_wr_in n (by omega)
theorem am_shlN {n k : Nat} (hk : k < 31) : nI n <<< (nI k &&& 31) = nI (n * 2 ^ k) := by
  apply am_ext
  intro j hj
  rw [am_bt_shl (by omega) hj, am_bt_nI hj, Nat.testBit_mul_two_pow]
  by_cases h : j < k
  · rw [decide_eq_true h, decide_eq_false (by omega)]; rfl
  · rw [decide_eq_false h, decide_eq_true (by omega), am_bt_nI (by omega)]; rfl
theorem am_orN {a b k : Nat} (h : b < 2 ^ k) : nI (a * 2 ^ k) ||| nI b = nI (a * 2 ^ k + b) := by
  apply am_ext
  intro j hj
  rw [am_bt_or, am_bt_nI hj, am_bt_nI hj, am_bt_nI hj, Nat.mul_comm, Nat.two_pow_add_eq_or_of_lt h, Nat.testBit_or]
theorem rf_ix {n j : Nat} (hj : j < 1024) : nI n <<< (nI 10 &&& 31) ||| nI j = nI (n * 1024 + j) := by
  rw [am_shlN (by decide)]
  exact am_orN (k := 10) hj
/-- a soldier more in the set -/
def rf_ws (j s : Nat) : Nat := rf_nat (nI j ||| (nI 1 <<< (nI s &&& 31)))
theorem rf_ws_n {j s k : Nat} (hk : k ≤ 16) (hj : j < 2 ^ k) (hs : s < k) : rf_n (nI j ||| (nI 1 <<< (nI s &&& 31))) (2 ^ k) := by
  refine am_lo_n hk (fun i hi => ?_)
  rw [am_bt_or]
  by_cases h32 : i < 32
  · rw [am_bt_nI h32, Nat.testBit_lt_two_pow (Nat.lt_of_lt_of_le hj (Nat.pow_le_pow_right (by decide) hi)), am_bt_1 (by omega) h32, decide_eq_false (by omega)]; rfl
  · rw [am_bt_big (by omega), am_bt_big (by omega)]; rfl
theorem rf_ix2 {n j s : Nat} (hj : j < 1024) (hs : s < 10) : nI n <<< (nI 10 &&& 31) ||| nI j ||| (nI 1 <<< (nI s &&& 31)) = nI (n * 1024 + rf_ws j s) := by
  have h := rf_ws_n (k := 10) (by decide) hj hs
  rw [am_shlN (by decide), show ∀ a b c : Int32, a ||| b ||| c = a ||| (b ||| c) from fun a b c => am_ext (fun i _ => by simp only [am_bt_or, Bool.or_assoc]), h.1]
  exact am_orN (k := 10) h.2
theorem rf_ws_lt {j s k : Nat} (hk : k ≤ 16) (hj : j < 2 ^ k) (hs : s < k) : rf_ws j s < 2 ^ k := (rf_ws_n hk hj hs).2
/-- how many ways there are: sums over soldiers; f memories still to be given, j who have got one -/
def rf_wsum (g : Nat → Int32) (set : Int32) : Nat → Int32
  | 0 => nI 0
  | s + 1 => rf_wsum g set s + (if am_bt set s = true then g s else nI 0)
def rf_ways (wh : Nat → Int32) (S n : Nat) : Nat → Nat → Int32
  | 0, _ => nI 1
  | f + 1, j => rf_wsum (fun s => rf_ways wh S n f (rf_ws j s)) (wh (n - (f + 1)) &&& (nI j ^^^ (-1))) S
def rf_m1 (row : rf_W) (n : Nat) : Nat → rf_W
  | 0 => row
  | j + 1 => upd (rf_m1 row n j) (n * 1024 + j) (nI 1)
def rf_m2 (wh : Nat → Int32) (S k : Nat) (row : rf_W) : Nat → rf_W
  | 0 => row
  | j + 1 => upd (rf_m2 wh S k row j) (k * 1024 + j) (rf_wsum (fun s => rf_m2 wh S k row j ((k + 1) * 1024 + rf_ws j s)) (wh k &&& (nI j ^^^ (-1))) S)
def rf_m3 (wh : Nat → Int32) (S n : Nat) (row : rf_W) : Nat → rf_W
  | 0 => row
  | f + 1 => rf_m2 wh S (n - (f + 1)) (rf_m3 wh S n row f) (2 ^ S)
theorem rf_m1_in {row : rf_W} {n a : Nat} : ∀ m, a < m → rf_m1 row n m (n * 1024 + a) = nI 1
  | 0, h => absurd h (by omega)
  | m + 1, h => by
    rw [rf_m1]
    by_cases e : a = m
    · subst e; exact rf_upd_eq
    · rw [rf_upd_ne (by omega)]; exact rf_m1_in m (by omega)
theorem rf_wsum_congr {g g' : Nat → Int32} {x : Int32} : ∀ n, (∀ s, s < n → am_bt x s = true → g s = g' s) → rf_wsum g x n = rf_wsum g' x n
  | 0, _ => rfl
  | n + 1, h => by
    rw [rf_wsum, rf_wsum, rf_wsum_congr n (fun s hs => h s (by omega))]
    by_cases hb : am_bt x n = true
    · rw [if_pos hb, if_pos hb, h n (by omega) hb]
    · rw [if_neg hb, if_neg hb]
theorem rf_m2_out {wh : Nat → Int32} {S k : Nat} {row : rf_W} {a : Nat} : ∀ m, (a < k * 1024 ∨ k * 1024 + m ≤ a) → rf_m2 wh S k row m a = row a := by
  intro m
  induction m with
  | zero => intro _; rw [rf_m2]
  | succ m ih => intro h; rw [rf_m2, rf_upd_ne (by omega), ih (by omega)]
theorem rf_m2_in {wh : Nat → Int32} {S k : Nat} {row : rf_W} {a : Nat} (hS : S ≤ 10) : ∀ m, m ≤ 1024 → a < m → rf_m2 wh S k row m (k * 1024 + a) = rf_wsum (fun s => row ((k + 1) * 1024 + rf_ws a s)) (wh k &&& (nI a ^^^ (-1))) S
  | 0, _, h => absurd h (by omega)
  | m + 1, hm, h => by
    rw [rf_m2]
    by_cases e : a = m
    · subst e
      rw [rf_upd_eq]
      exact rf_wsum_congr _ (fun s hs _ => rf_m2_out _ (by omega))
    · rw [rf_upd_ne (by omega)]; exact rf_m2_in hS m (by omega) (by omega)
theorem rf_m3_ok {wh : Nat → Int32} {S n : Nat} {row : rf_W} (hS : S ≤ 10) (h1 : ∀ j, j < 2 ^ S → row (n * 1024 + j) = nI 1) : ∀ f, f ≤ n → ∀ g, g ≤ f → ∀ j, j < 2 ^ S → rf_m3 wh S n row f ((n - g) * 1024 + j) = rf_ways wh S n g j
  | 0, _, g, hg, j, hj => by
    obtain rfl : g = 0 := by omega
    exact h1 j hj
  | f + 1, hf, g, hg, j, hj => by
    have ih := rf_m3_ok (wh := wh) hS h1 f (by omega)
    have hp : 2 ^ S ≤ 2 ^ 10 := Nat.pow_le_pow_right (by decide) hS
    rw [rf_m3]
    by_cases e : g = f + 1
    · subst e
      rw [rf_m2_in hS _ hp hj, rf_ways]
      refine rf_wsum_congr _ (fun s hs _ => ?_)
      have := ih f (Nat.le_refl f) (rf_ws j s) (rf_ws_lt (by omega) hj hs)
      rw [show n - (f + 1) + 1 = n - f by omega]
      exact this
    · rw [rf_m2_out _ (by omega)]
      exact ih g (by omega) j hj
/-- where the sum is not 0 a summand is not -/
theorem rf_wsum_ne {g : Nat → Int32} {x : Int32} : ∀ n, ¬ rf_wsum g x n = 0 → ∃ s, s < n ∧ am_bt x s = true ∧ ¬ g s = 0
  | 0, h => absurd rfl h
  | n + 1, h => by
    rw [rf_wsum] at h
    by_cases h0 : rf_wsum g x n = 0
    · by_cases hb : am_bt x n = true
      · rw [if_pos hb, h0, Int32.zero_add] at h
        exact ⟨n, by omega, hb, h⟩
      · rw [if_neg hb, h0] at h
        exact absurd (by decide) h
    · obtain ⟨s, hs, h2⟩ := rf_wsum_ne n h0
      exact ⟨s, by omega, h2⟩
/-- who gets the i-th first, and who has got one then -/
def rf_pkp (wh : Nat → Int32) (S n i j : Nat) (s : Nat) : Bool := am_bt (wh i &&& (nI j ^^^ (-1))) s && decide (¬ rf_ways wh S n (n - (i + 1)) (rf_ws j s) = 0)
def rf_pk (wh : Nat → Int32) (S n i j : Nat) : Nat := rf_fp (rf_pkp wh S n i j) S 0
def rf_gn (wh : Nat → Int32) (S n : Nat) : Nat → Nat
  | 0 => 0
  | i + 1 => rf_ws (rf_gn wh S n i) (rf_pk wh S n i (rf_gn wh S n i))
theorem rf_pk_ok {wh : Nat → Int32} {S n i j : Nat} (hi : i < n) (h : ¬ rf_ways wh S n (n - i) j = 0) : rf_pk wh S n i j < S ∧ rf_pkp wh S n i j (rf_pk wh S n i j) = true ∧ ∀ s, s < rf_pk wh S n i j → rf_pkp wh S n i j s = false := by
  rw [show n - i = n - (i + 1) + 1 by omega, rf_ways, show n - (n - (i + 1) + 1) = i by omega] at h
  obtain ⟨s, hs, hb, hg⟩ := rf_wsum_ne S h
  obtain ⟨-, a2, a3, a4⟩ := rf_fp_spec (rf_pkp wh S n i j) S 0 ⟨s, by omega, by omega, by rw [rf_pkp, hb, decide_eq_true hg]; rfl⟩
  exact ⟨by rw [rf_pk]; omega, a3, fun s hs => a4 s (by omega) hs⟩
theorem rf_gn_ok {wh : Nat → Int32} {S n : Nat} (hS : S ≤ 10) (h : ¬ rf_ways wh S n n 0 = 0) : ∀ i, i ≤ n → rf_gn wh S n i < 2 ^ S ∧ ¬ rf_ways wh S n (n - i) (rf_gn wh S n i) = 0
  | 0, _ => ⟨Nat.pow_pos (by decide), h⟩
  | i + 1, hi => by
    obtain ⟨a, b⟩ := rf_gn_ok hS h i (by omega)
    obtain ⟨c, d, -⟩ := rf_pk_ok (by omega) b
    rw [rf_gn]
    rw [rf_pkp, Bool.and_eq_true, decide_eq_true_eq] at d
    exact ⟨rf_ws_lt (by omega) a c, d.2⟩
def rf_mok (w t : rf_W) : Nat → Bool
  | 0 => true
  | i + 1 => rf_mok w t i && rf_okN (t i) (rf_M w)
def rf_mis (w t : rf_W) (e : Nat) (k : Int32) (i : Nat) : Bool := (decide (e ≤ 8) && rf_in k (-1) (nI e - nI 1)) && rf_mok w t i
theorem rf_mok_f {w t : rf_W} {i : Nat} (h : rf_mok w t i = false) : ∀ n, i ≤ n → rf_mok w t n = false
  | 0, hn => by
    obtain rfl : i = 0 := by omega
    exact h
  | n + 1, hn => by
    by_cases e : i = n + 1
    · subst e; exact h
    · rw [rf_mok, rf_mok_f h n (by omega)]; rfl
theorem rf_mis_f {w t : rf_W} {e i : Nat} {k : Int32} (h : rf_mis w t e k i = false) {n : Nat} (hn : i ≤ n) : rf_mis w t e k n = false := by
  rw [rf_mis] at h ⊢
  cases hc : (decide (e ≤ 8) && rf_in k (-1) (nI e - nI 1)) with
  | false => rfl
  | true =>
    rw [hc] at h
    rw [rf_mok_f (by exact h) n hn]; rfl
theorem rf_mok_in {w t : rf_W} : ∀ n, rf_mok w t n = true → ∀ i, i < n → rf_okN (t i) (rf_M w) = true
  | 0, _, i, h => absurd h (by omega)
  | n + 1, h, i, hi => by
    rw [rf_mok, Bool.and_eq_true] at h
    by_cases e : i = n
    · subst e; exact h.2
    · exact rf_mok_in n h.1 i (by omega)
def rf_c_matches (w t o : rf_W) (place k : Int32) : Nat := rf_cb (!rf_in place (nI 0) (nI 7)) 1 (rf_cb (!rf_mis w t (rf_nat (o 9)) k (rf_nat (o 9))) 2 0)
def rf_a_matches (w t o : rf_W) (place k : Int32) : Int32 := if k = -1 then rf_ways (rf_wh w t place) (rf_S w) (rf_nat (o 9)) (rf_nat (o 9)) 0 else if rf_ways (rf_wh w t place) (rf_S w) (rf_nat (o 9)) (rf_nat (o 9)) 0 = 0 then -1 else nI (rf_pk (rf_wh w t place) (rf_S w) (rf_nat (o 9)) (rf_nat k) (rf_gn (rf_wh w t place) (rf_S w) (rf_nat (o 9)) (rf_nat k)))
end SPEC17
