/-! WHOSE THE TOLD MEMORIES CAN BE: the class's sets of soldiers against the reference's -/
section SPEC23
theorem rf_bc_bit : ∀ s, s < 10 → rf_bc (nI 1 <<< (nI s &&& 31)) = 1 := by decide
theorem rf_nI_lo {j k : Nat} (h : j < 2 ^ k) (hk : k ≤ 31) : am_lo (nI j) k := fun i hi => by
  by_cases h32 : i < 32
  · rw [am_bt_nI h32]; exact Nat.testBit_lt_two_pow (Nat.lt_of_lt_of_le h (Nat.pow_le_pow_right (by decide) hi))
  · exact am_bt_big (by omega)
/-- one more who has got one -/
theorem rf_ws_more {j s : Nat} (hj : j < 1024) (hs : s < 10) (hb : am_bt (nI j) s = false) : j < rf_ws j s ∧ rf_bc (nI (rf_ws j s)) = rf_bc (nI j) + 1 := by
  have hw := rf_ws_n (k := 10) (by decide) (show j < 2 ^ 10 from hj) hs
  have hlt : rf_ws j s < 1024 := hw.2
  have e : nI (rf_ws j s) = nI j ||| (nI 1 <<< (nI s &&& 31)) := hw.1.symm
  have hbc : rf_bc (nI (rf_ws j s)) = rf_bc (nI j) + rf_bc (nI 1 <<< (nI s &&& 31)) := rf_bc_add (fun k hk => by
    rw [e, am_bt_or]
    refine ⟨rfl, ?_⟩
    rw [am_bt_1 (by omega) (by omega)]
    by_cases hks : k = s
    · rw [hks, hb]; rfl
    · rw [decide_eq_false hks, Bool.and_false])
  rw [rf_bc_bit s hs] at hbc
  refine ⟨?_, hbc⟩
  have hsub : rf_sub (nI j) (nI (rf_ws j s)) := fun k _ h => by rw [e, am_bt_or, h]; rfl
  have hle := rf_sub_le (am_lo_mono (rf_nI_lo (k := 10) hlt (by decide)) (by decide)) hsub
  rw [rf_nat_nI (by omega), rf_nat_nI (by omega)] at hle
  rcases Nat.lt_or_ge j (rf_ws j s) with q | q
  · exact q
  · have : rf_ws j s = j := by omega
    rw [this] at hbc
    omega
/-- the class's count for a set of soldiers who have got one -/
def cl_wv (f g : Nat → Int32) (S n j : Nat) : Int32 := if rf_bc (nI j) < n then rf_wsum (fun s => g (rf_ws j s)) (f (rf_bc (nI j)) &&& (nI j ^^^ (-1))) S else if rf_bc (nI j) = n then nI 1 else nI 0
def cl_wm (f : Nat → Int32) (S n : Nat) (row : Nat → Int32) : Nat → Nat → Int32
  | 0 => row
  | m + 1 => upd (cl_wm f S n row m) (2 ^ S - (m + 1)) (cl_wv f (cl_wm f S n row m) S n (2 ^ S - (m + 1)))
theorem cl_wm_at {f : Nat → Int32} {S n : Nat} {row : Nat → Int32} (hS : S ≤ 10) : ∀ m, m ≤ 2 ^ S → ∀ j, 2 ^ S - m ≤ j → j < 2 ^ S → rf_bc (nI j) ≤ n → cl_wm f S n row m j = rf_ways f S n (n - rf_bc (nI j)) j
  | 0, _, j, h1, h2, _ => absurd h1 (by omega)
  | m + 1, hm, j, h1, h2, h3 => by
    have hp : 2 ^ S ≤ 2 ^ 10 := Nat.pow_le_pow_right (by decide) hS
    have ih := cl_wm_at (f := f) (n := n) (row := row) hS m (by omega)
    rw [cl_wm]
    by_cases e : j = 2 ^ S - (m + 1)
    · rw [← e, rf_upd_eq, cl_wv]
      by_cases hc : rf_bc (nI j) < n
      · rw [if_pos hc, show n - rf_bc (nI j) = n - (rf_bc (nI j) + 1) + 1 by omega, rf_ways, show n - (n - (rf_bc (nI j) + 1) + 1) = rf_bc (nI j) by omega]
        refine rf_wsum_congr _ (fun s hs hb => ?_)
        rw [am_bt_and, am_bt_not (by omega), Bool.and_eq_true, Bool.not_eq_true'] at hb
        obtain ⟨a1, a2⟩ := rf_ws_more (j := j) (s := s) (by omega) (by omega) hb.2
        rw [ih (rf_ws j s) (by omega) (rf_ws_lt (by omega) h2 hs) (by omega), a2]
      · rw [if_neg hc, if_pos (by omega), show n - rf_bc (nI j) = 0 by omega, rf_ways]
    · rw [rf_upd_ne e]
      exact ih j (by omega) h2 h3
theorem rf_ways_congr {f g : Nat → Int32} {S n : Nat} (h : ∀ i, i < n → f i = g i) : ∀ d, d ≤ n → ∀ j, rf_ways f S n d j = rf_ways g S n d j
  | 0, _, j => by rw [rf_ways, rf_ways]
  | d + 1, hd, j => by
    rw [rf_ways, rf_ways, h _ (by omega)]
    exact rf_wsum_congr _ (fun s _ _ => rf_ways_congr h d (by omega) _)
theorem rf_wsum_le {g : Nat → Int32} {x : Int32} {B : Nat} : ∀ n, (∀ s, s < n → ∃ y, y ≤ B ∧ g s = nI y) → ∃ y, y ≤ n * B ∧ rf_wsum g x n = nI y
  | 0, _ => ⟨0, Nat.zero_le _, rfl⟩
  | n + 1, h => by
    obtain ⟨y, hy, e⟩ := rf_wsum_le (x := x) n (fun s hs => h s (by omega))
    obtain ⟨z, hz, e2⟩ := h n (by omega)
    rw [rf_wsum, e, Nat.succ_mul]
    split
    · rw [e2, nI_add]
      exact ⟨y + z, by omega, rfl⟩
    · exact ⟨y, by omega, Int32.add_zero _⟩
theorem rf_ways_le {f : Nat → Int32} {S n : Nat} (hS : S ≤ 10) : ∀ d j, ∃ y, y ≤ 10 ^ d ∧ rf_ways f S n d j = nI y
  | 0, j => ⟨1, by decide, by rw [rf_ways]⟩
  | d + 1, j => by
    rw [rf_ways]
    obtain ⟨y, hy, e⟩ := rf_wsum_le (x := f (n - (d + 1)) &&& (nI j ^^^ (-1))) S (fun s _ => rf_ways_le (f := f) (n := n) hS d (rf_ws j s))
    have : S * 10 ^ d ≤ 10 * 10 ^ d := Nat.mul_le_mul_right _ hS
    exact ⟨y, by rw [Nat.pow_succ]; omega, e⟩
theorem rf_ways_pos {f : Nat → Int32} {S n d j : Nat} (hS : S ≤ 10) (hd : d ≤ 8) : nI 0 < rf_ways f S n d j ↔ ¬ rf_ways f S n d j = 0 := by
  obtain ⟨y, hy, e⟩ := rf_ways_le (f := f) (n := n) hS d j
  have h8 : 10 ^ d ≤ 10 ^ 8 := Nat.pow_le_pow_right (by decide) hd
  rw [e, nI_ltI (by omega) (by omega)]
  constructor
  · intro h; exact nI_ne0 h (by omega)
  · intro h
    rcases Nat.eq_zero_or_pos y with q | q
    · rw [q] at h; exact absurd rfl h
    · exact q
/-- the first who can get the i-th -/
def cl_fo (f g : Nat → Int32) (S i j : Nat) : Int32 := rf_sea (fun s => am_bt (f i &&& (nI j ^^^ (-1))) s && decide (nI 0 < g (rf_ws j s))) (fun s => nI s) S 0
theorem rf_sea_fp {p : Nat → Bool} : ∀ n k, rf_sea p (fun s => nI s) n k = if rf_fp p n k < k + n then nI (rf_fp p n k) else -1
  | 0, k => by rw [rf_fp, if_neg (by omega)]; rfl
  | n + 1, k => by
    rw [rf_fp]
    cases h : p k with
    | true => rw [rf_sea_t h, if_pos rfl, if_pos (by omega)]
    | false => rw [rf_sea_f h, if_neg Bool.false_ne_true, rf_sea_fp n (k + 1), show k + 1 + n = k + (n + 1) by omega]
theorem rf_sea_congr {p q : Nat → Bool} {v : Nat → Int32} : ∀ n k, (∀ i, k ≤ i → i < k + n → p i = q i) → rf_sea p v n k = rf_sea q v n k
  | 0, _, _ => rfl
  | n + 1, k, h => by rw [rf_sea, rf_sea, h k (Nat.le_refl k) (by omega), rf_sea_congr n (k + 1) (fun i h1 h2 => h i (by omega) (by omega))]
/-- rows that hold the ways -/
def cl_Wy (f g : Nat → Int32) (S n : Nat) : Prop := ∀ j, j < 2 ^ S → rf_bc (nI j) ≤ n → g j = rf_ways f S n (n - rf_bc (nI j)) j
theorem cl_fo_eq {f g : Nat → Int32} {S n i j : Nat} (hS : S ≤ 10) (hn : n ≤ 8) (hW : cl_Wy f g S n) (hj : j < 2 ^ S) (hb : rf_bc (nI j) = i) (hi : i < n) : cl_fo f g S i j = if rf_pk f S n i j < S then nI (rf_pk f S n i j) else -1 := by
  have hp : 2 ^ S ≤ 2 ^ 10 := Nat.pow_le_pow_right (by decide) hS
  have e : cl_fo f g S i j = rf_sea (rf_pkp f S n i j) (fun s => nI s) S 0 := by
    refine rf_sea_congr S 0 (fun s _ hs => ?_)
    rw [rf_pkp]
    cases hbs : am_bt (f i &&& (nI j ^^^ (-1))) s with
    | false => rfl
    | true =>
      have hb2 := hbs
      rw [am_bt_and, am_bt_not (by omega), Bool.and_eq_true, Bool.not_eq_true'] at hb2
      obtain ⟨a1, a2⟩ := rf_ws_more (j := j) (s := s) (by omega) (by omega) hb2.2
      rw [Bool.true_and, Bool.true_and, hW _ (rf_ws_lt (by omega) hj (by omega)) (by omega), a2, hb]
      exact decide_eq_decide.mpr (rf_ways_pos hS (by omega))
  rw [e, rf_sea_fp, Nat.zero_add]
  rfl
theorem rf_bc_0 : rf_bc (nI 0) = 0 := rf_cnt_0 16 (fun _ _ => am_bt_n0 _)
/-- who has got one when the first i are given -/
theorem rf_gn_bc {f : Nat → Int32} {S n : Nat} (hS : S ≤ 10) (h : ¬ rf_ways f S n n 0 = 0) : ∀ i, i ≤ n → rf_bc (nI (rf_gn f S n i)) = i
  | 0, _ => rf_bc_0
  | i + 1, hi => by
    have ih := rf_gn_bc hS h i (by omega)
    have hp : 2 ^ S ≤ 2 ^ 10 := Nat.pow_le_pow_right (by decide) hS
    obtain ⟨a, b⟩ := rf_gn_ok hS h i (by omega)
    obtain ⟨c, d, -⟩ := rf_pk_ok (by omega) b
    rw [rf_pkp, Bool.and_eq_true, am_bt_and, am_bt_not (by omega), Bool.and_eq_true, Bool.not_eq_true'] at d
    rw [rf_gn, (rf_ws_more (by omega) (by omega) d.1.2).2, ih]
theorem rf_pk_no {f : Nat → Int32} {S n : Nat} (hn : 0 < n) (h : rf_ways f S n n 0 = 0) (hS : S ≤ 10) (h8 : n ≤ 8) : ¬ rf_pk f S n 0 0 < S := by
  intro hlt
  have hex : rf_pkp f S n 0 0 (rf_pk f S n 0 0) = true := by
    have key : ∀ m k, rf_fp (rf_pkp f S n 0 0) m k < k + m → rf_pkp f S n 0 0 (rf_fp (rf_pkp f S n 0 0) m k) = true := by
      intro m
      induction m with
      | zero => intro k h; rw [rf_fp] at h; omega
      | succ m ih =>
        intro k h
        rw [rf_fp] at h ⊢
        split
        · rename_i q; exact q
        · rename_i q; rw [if_neg q] at h; exact ih (k + 1) (by omega)
    exact key S 0 (by rw [Nat.zero_add]; exact hlt)
  rw [rf_pkp, Bool.and_eq_true, decide_eq_true_eq] at hex
  -- a sum of what isn't below 0 with a summand above 0 isn't 0
  have hs : ∀ m, m ≤ S → (∃ y, y ≤ m * 10 ^ (n - 1) ∧ rf_wsum (fun s => rf_ways f S n (n - 1) (rf_ws 0 s)) (f 0 &&& (nI 0 ^^^ (-1))) m = nI y ∧ (rf_pk f S n 0 0 < m → 0 < y)) := by
    intro m
    induction m with
    | zero => intro _; exact ⟨0, Nat.zero_le _, rfl, fun z => absurd z (by omega)⟩
    | succ m ih =>
      intro hm
      obtain ⟨y, hy, e, hy2⟩ := ih (by omega)
      obtain ⟨z, hz, e2⟩ := rf_ways_le (f := f) (n := n) hS (n - 1) (rf_ws 0 m)
      rw [rf_wsum, e, Nat.succ_mul]
      by_cases hb : am_bt (f 0 &&& (nI 0 ^^^ (-1))) m = true
      · rw [if_pos hb]
        refine ⟨y + z, by omega, by rw [e2, nI_add], fun q => ?_⟩
        by_cases hq : rf_pk f S n 0 0 < m
        · have := hy2 hq; omega
        · have hq2 : rf_pk f S n 0 0 = m := by omega
          rcases Nat.eq_zero_or_pos z with h0 | h0
          · have h9 := hex.2
            rw [hq2, show n - (0 + 1) = n - 1 by omega, e2, h0] at h9
            exact absurd rfl h9
          · omega
      · rw [if_neg hb]
        refine ⟨y, by omega, Int32.add_zero _, fun q => ?_⟩
        by_cases hq : rf_pk f S n 0 0 < m
        · exact hy2 hq
        · have hq2 : rf_pk f S n 0 0 = m := by omega
          rw [hq2] at hex
          exact absurd hex.1 hb
  obtain ⟨y, hy, e, hy2⟩ := hs S (Nat.le_refl S)
  have h9 := hy2 hlt
  rw [show n = n - 1 + 1 by omega] at h
  rw [rf_ways, show n - 1 + 1 - (n - 1 + 1) = 0 by omega, show n - 1 + 1 = n by omega, e] at h
  have hS2 : S * 10 ^ (n - 1) ≤ 10 * 10 ^ 7 := Nat.mul_le_mul hS (Nat.pow_le_pow_right (by decide) (by omega))
  exact nI_ne0 h9 (by omega) h
end SPEC23
