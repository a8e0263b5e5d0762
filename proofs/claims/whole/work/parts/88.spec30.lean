/-! DUELS: the class's roots against the reference's counts by places; the best hit -/
section SPEC30
section
variable {w : rf_W}
theorem rf_known_bits {s : Nat} (hI : rf_Is w s) : rf_known w s = rf_bits (rf_li w s) (rf_kn w s) := by
  have hk : rf_kn w s < 13 := hI.2.2.2.2.1.2
  rw [rf_known, rf_first, Nat.min_eq_left (by omega)]
theorem rf_roots_at {s m : Nat} (hI : rf_Is w s) (hM : rf_M w < 17) (hm : m < 32) : am_bt (rf_roots w (rf_known w s)) m = (am_bt (rf_bits (rf_li w s) (rf_kn w s)) m && decide (rf_mem w m 1 = 0)) := by
  rw [rf_roots, rf_set_bt hm _ (by omega), ← rf_known_bits hI]
  by_cases hmM : m < rf_M w
  · rw [decide_eq_true hmM, Bool.true_and]
  · rw [decide_eq_false hmM, Bool.false_and, rf_known_lo hI hM m (by omega), Bool.false_and]
theorem rf_full_bt {n k : Nat} (hn : n ≤ 7) (hk : k < n) : am_bt (nI (2 ^ n - 1)) k = true := by
  rw [am_bt_nI (by omega), Nat.testBit_two_pow_sub_one]
  exact decide_eq_true hk
theorem rf_rc_full {s : Nat} (hI : rf_Is w s) (hM : rf_M w < 17) (h7 : rf_kn w s ≤ 7) : rf_bc (rf_roots w (rf_known w s)) = rf_rc w s (2 ^ rf_kn w s - 1) := by
  have h1 := rf_cnt_places (N := 16) rfl hI hM (fun m => decide (rf_mem w m 1 = 0)) (rf_kn w s) (Nat.le_refl _)
  rw [rf_bc, rf_rc, rf_cnt_congr (p := am_bt (rf_roots w (rf_known w s))) (q := fun m => am_bt (rf_bits (rf_li w s) (rf_kn w s)) m && decide (rf_mem w m 1 = 0)) 16 (fun m hm => rf_roots_at hI hM (by omega)), h1]
  exact rf_cnt_congr (q := fun k => am_bt (nI (2 ^ rf_kn w s - 1)) k && rf_root w s k) _ (fun k hk => by rw [rf_full_bt h7 hk, Bool.true_and]; rfl)
theorem rf_rc_less {s k : Nat} (hI : rf_Is w s) (hM : rf_M w < 17) (h7 : rf_kn w s ≤ 7) (hk : k < rf_kn w s) : rf_bc (rf_roots w (rf_known w s) &&& ((nI 1 <<< (nI (rf_li w s k) &&& 31)) ^^^ (-1))) = rf_rc w s (rf_wo (2 ^ rf_kn w s - 1) k) := by
  have hp : 2 ^ rf_kn w s ≤ 2 ^ 7 := Nat.pow_le_pow_right (by decide) h7
  have hli : rf_li w s k < rf_M w := rf_li_lt hI hk
  have h1 := rf_cnt_places (N := 16) rfl hI hM (fun m => decide (rf_mem w m 1 = 0) && decide (m ≠ rf_li w s k)) (rf_kn w s) (Nat.le_refl _)
  rw [rf_bc, rf_rc, rf_cnt_congr (p := am_bt (rf_roots w (rf_known w s) &&& ((nI 1 <<< (nI (rf_li w s k) &&& 31)) ^^^ (-1)))) (q := fun m => am_bt (rf_bits (rf_li w s) (rf_kn w s)) m && (decide (rf_mem w m 1 = 0) && decide (m ≠ rf_li w s k))) 16 (fun m hm => by
    rw [am_bt_and, am_bt_not (by omega), am_bt_1 (by omega) (by omega), rf_roots_at hI hM (by omega), Bool.and_assoc]
    by_cases e : m = rf_li w s k
    · rw [decide_eq_true e, show decide (m ≠ rf_li w s k) = false from decide_eq_false (fun z => z e)]; rfl
    · rw [decide_eq_false e, show decide (m ≠ rf_li w s k) = true from decide_eq_true e]; rfl), h1]
  refine rf_cnt_congr (p := fun j => decide (rf_mem w (rf_li w s j) 1 = 0) && decide (rf_li w s j ≠ rf_li w s k)) (q := fun j => am_bt (nI (rf_wo (2 ^ rf_kn w s - 1) k)) j && rf_root w s j) _ (fun j hj => ?_)
  have hpos : 0 < 2 ^ rf_kn w s := Nat.pow_pos (by decide)
  show (decide (rf_mem w (rf_li w s j) 1 = 0) && decide (rf_li w s j ≠ rf_li w s k)) = (am_bt (nI (rf_wo (2 ^ rf_kn w s - 1) k)) j && rf_root w s j)
  rw [rf_wo_bt (by omega) (by omega) (by omega), rf_full_bt h7 hj, Bool.true_and, Bool.and_comm]
  by_cases e : j = k
  · rw [e, show decide (rf_li w s k ≠ rf_li w s k) = false from decide_eq_false (fun z => z rfl), show decide (k ≠ k) = false from decide_eq_false (fun z => z rfl), Bool.false_and, Bool.false_and]
  · rw [show decide (rf_li w s j ≠ rf_li w s k) = true from decide_eq_true (fun z => e (hI.2.2.2.2.2.2.1 j k hj hk z)), show decide (j ≠ k) = true from decide_eq_true e]
    rfl
def rf_bg (w : rf_W) (a b k : Nat) : Prop := rf_race (rf_rc w b (rf_wo (2 ^ rf_kn w b - 1) k)) (rf_rc w a (2 ^ rf_kn w a - 1)) = false
theorem rf_bst_inv {a b : Nat} : ∀ n, (rf_bst w a b n = 0 ∧ ∀ k, k < n → ¬ rf_bg w a b k) ∨ ∃ k0, k0 < n ∧ rf_bst w a b n = rf_li w b k0 + 1 ∧ rf_bg w a b k0 ∧ ∀ k, k < n → rf_bg w a b k → rf_li w b k0 ≤ rf_li w b k
  | 0 => Or.inl ⟨rfl, fun k hk => absurd hk (by omega)⟩
  | n + 1 => by
    have ih := rf_bst_inv (a := a) (b := b) n
    rw [rf_bst]
    by_cases hg : rf_bg w a b n
    · rcases ih with ⟨h1, h2⟩ | ⟨k0, h1, h2, h3, h4⟩
      · rw [if_pos ⟨hg, Or.inl h1⟩]
        refine Or.inr ⟨n, by omega, rfl, hg, fun k hk hk2 => ?_⟩
        by_cases e : k = n
        · rw [e]; exact Nat.le_refl _
        · exact absurd hk2 (h2 k (by omega))
      · by_cases hl : rf_li w b n < rf_bst w a b n - 1
        · rw [if_pos ⟨hg, Or.inr hl⟩]
          refine Or.inr ⟨n, by omega, rfl, hg, fun k hk hk2 => ?_⟩
          by_cases e : k = n
          · rw [e]; exact Nat.le_refl _
          · have := h4 k (by omega) hk2; omega
        · rw [if_neg (fun z => by rcases z.2 with q | q <;> omega)]
          refine Or.inr ⟨k0, by omega, h2, h3, fun k hk hk2 => ?_⟩
          by_cases e : k = n
          · rw [e]; omega
          · exact h4 k (by omega) hk2
    · rw [if_neg (fun z => hg z.1)]
      rcases ih with ⟨h1, h2⟩ | ⟨k0, h1, h2, h3, h4⟩
      · refine Or.inl ⟨h1, fun k hk => ?_⟩
        by_cases e : k = n
        · rw [e]; exact hg
        · exact h2 k (by omega)
      · refine Or.inr ⟨k0, by omega, h2, h3, fun k hk hk2 => ?_⟩
        by_cases e : k = n
        · rw [e] at hk2; exact absurd hk2 hg
        · exact h4 k (by omega) hk2
theorem rf_sea_none {p : Nat → Bool} {v : Nat → Int32} : ∀ n k, (∀ i, k ≤ i → i < k + n → p i = false) → rf_sea p v n k = -1
  | 0, _, _ => rfl
  | n + 1, k, h => by rw [rf_sea_f (h k (Nat.le_refl k) (by omega)), rf_sea_none n (k + 1) (fun i h1 h2 => h i (by omega) (by omega))]
/-- the class's winning hit is the reference's -/
theorem cl_best_eq {a b : Nat} (ha : rf_Is w a) (hb : rf_Is w b) (hM : rf_M w < 17) (ha7 : rf_kn w a ≤ 7) (hb7 : rf_kn w b ≤ 7) :
    rf_sea (fun m => am_bt (rf_known w b) m && !rf_race (rf_bc (rf_roots w (rf_known w b) &&& ((nI 1 <<< (nI m &&& 31)) ^^^ (-1)))) (rf_bc (rf_roots w (rf_known w a)))) (fun m => nI m) (rf_M w) 0 = am_oi (rf_bst w a b (rf_kn w b)) := by
  have hbt : ∀ j, j < 32 → (am_bt (rf_known w b) j = true ↔ ∃ k, k < rf_kn w b ∧ rf_li w b k = j) := fun j hj => rf_known_bt hb hM hj
  have hg : ∀ k, k < rf_kn w b → ((fun m => am_bt (rf_known w b) m && !rf_race (rf_bc (rf_roots w (rf_known w b) &&& ((nI 1 <<< (nI m &&& 31)) ^^^ (-1)))) (rf_bc (rf_roots w (rf_known w a)))) (rf_li w b k) = true ↔ rf_bg w a b k) := fun k hk => by
    have hli : rf_li w b k < rf_M w := rf_li_lt hb hk
    show (am_bt (rf_known w b) (rf_li w b k) && !rf_race (rf_bc (rf_roots w (rf_known w b) &&& ((nI 1 <<< (nI (rf_li w b k) &&& 31)) ^^^ (-1)))) (rf_bc (rf_roots w (rf_known w a)))) = true ↔ _
    rw [(hbt _ (by omega)).mpr ⟨k, hk, rfl⟩, Bool.true_and, rf_rc_less hb hM hb7 hk, rf_rc_full ha hM ha7, Bool.not_eq_true']
    exact Iff.rfl
  have hex : ∀ m, m < rf_M w → (fun m => am_bt (rf_known w b) m && !rf_race (rf_bc (rf_roots w (rf_known w b) &&& ((nI 1 <<< (nI m &&& 31)) ^^^ (-1)))) (rf_bc (rf_roots w (rf_known w a)))) m = true → ∃ k, k < rf_kn w b ∧ rf_li w b k = m := fun m hm h => by
    have h2 := (Bool.and_eq_true _ _ |>.mp h).1
    exact (hbt m (by omega)).mp h2
  generalize (fun m => am_bt (rf_known w b) m && !rf_race (rf_bc (rf_roots w (rf_known w b) &&& ((nI 1 <<< (nI m &&& 31)) ^^^ (-1)))) (rf_bc (rf_roots w (rf_known w a)))) = p at hg hex ⊢
  rcases rf_bst_inv (w := w) (a := a) (b := b) (rf_kn w b) with ⟨h1, h2⟩ | ⟨k0, h1, h2, h3, h4⟩
  · rw [h1, am_oi_0]
    refine rf_sea_none _ 0 (fun i _ hi => ?_)
    cases hp : p i with
    | false => rfl
    | true =>
      obtain ⟨k, hk, e⟩ := hex i (by omega) hp
      rw [← e] at hp
      exact absurd ((hg k hk).mp hp) (h2 k hk)
  · have hli : rf_li w b k0 < rf_M w := rf_li_lt hb h1
    have hp0 := (hg k0 h1).mpr h3
    obtain ⟨f1, f2, f3, f4⟩ := rf_fp_spec p (rf_M w) 0 ⟨rf_li w b k0, by omega, by omega, hp0⟩
    rw [rf_sea_fp, if_pos f2, h2, am_oi_s]
    obtain ⟨k, hk, e⟩ := hex _ (by omega) f3
    have g1 : rf_li w b k0 ≤ rf_fp p (rf_M w) 0 := by
      rw [← e]
      exact h4 k hk ((hg k hk).mp (by rw [e]; exact f3))
    have g2 : rf_fp p (rf_M w) 0 ≤ rf_li w b k0 := Nat.not_lt.mp (fun z => by
      rw [f4 _ (by omega) z] at hp0
      exact absurd hp0 Bool.false_ne_true)
    rw [show rf_fp p (rf_M w) 0 = rf_li w b k0 by omega]
end
end SPEC30
