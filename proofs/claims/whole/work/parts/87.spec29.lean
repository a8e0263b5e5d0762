/-! A TREATY UNDONE, roots counted by memories and by places -/
section SPEC29
section
variable {w : rf_W}
theorem rf_ub_bt {d : Int32} {m : Nat} : ∀ n, am_bt (rf_ub w d n) m = true ↔ ∃ s, s < n ∧ rf_of w s 0 = d ∧ am_bt (rf_use w s) m = true
  | 0 => by rw [rf_ub, am_bt_n0]; exact ⟨fun h => absurd h Bool.false_ne_true, fun ⟨s, hs, _⟩ => absurd hs (by omega)⟩
  | n + 1 => by
    rw [rf_ub, am_bt_or, Bool.or_eq_true, rf_ub_bt n]
    constructor
    · rintro (⟨s, hs, h⟩ | h)
      · exact ⟨s, by omega, h⟩
      · split at h
        · rename_i hc; exact ⟨n, by omega, hc, h⟩
        · rw [am_bt_n0] at h; exact absurd h Bool.false_ne_true
    · rintro ⟨s, hs, h1, h2⟩
      by_cases e : s = n
      · subst e; rw [if_pos h1]; exact Or.inr h2
      · exact Or.inl ⟨s, by omega, h1, h2⟩
theorem rf_uc_0 (hI : rf_I w) {d m : Nat} (h : am_bt (rf_usableBy w (nI d)) m = false) : rf_uc w d m = 0 := by
  have hS : rf_S w < 11 := hI.1.2.1.2
  refine rf_cnt_0 16 (fun s hs => ?_)
  rw [rf_usersOf, am_bt_and, rf_users, rf_sideOf, rf_set_bt (by omega) _ (by omega), rf_set_bt (by omega) _ (by omega)]
  by_cases hsS : s < rf_S w
  · by_cases h0 : rf_of w s 0 = nI d
    · cases hu : am_bt (rf_use w s) m with
      | false => rw [Bool.and_false, Bool.false_and]
      | true =>
        have := (rf_ub_bt (w := w) (d := nI d) (m := m) (rf_S w)).mpr ⟨s, hsS, h0, hu⟩
        rw [rf_usableBy] at h
        rw [h] at this
        exact absurd this Bool.false_ne_true
    · rw [decide_eq_false h0, Bool.and_false, Bool.and_false]
  · rw [decide_eq_false hsS, Bool.false_and, Bool.false_and]
theorem rf_un_treaty (hI : rf_I w) {set : Int32} (hlo : am_lo set (rf_M w)) : rf_un w set (rf_M w) = if set = 0 then -1 else bif decide (set &&& (rf_agrees w ^^^ (-1)) = 0) then rf_tr w set (rf_M w) else nI 0 := by
  rcases rf_un_tr hI (set := set) (rf_M w) with ⟨h1, h2, -⟩ | ⟨⟨m, h1, h1b⟩, y, h2, h3, h4, h5⟩
  · have h0 : set = 0 := am_ext (fun j _ => by
      rw [am_bt_0]
      by_cases hj : j < rf_M w
      · exact h1 j hj
      · exact hlo j (by omega))
    rw [if_pos h0, h2]
  · have h0 : ¬ set = 0 := fun z => by rw [z, am_bt_0] at h1b; exact Bool.false_ne_true h1b
    rw [if_neg h0, h3, h4]
    by_cases hc : set &&& (rf_agrees w ^^^ (-1)) = 0
    · rw [decide_eq_true hc]; rfl
    · rw [decide_eq_false hc]
      show nI y = nI 0
      have hM : rf_M w < 17 := hI.1.1.2
      have hex : ∃ j, j < rf_M w ∧ am_bt set j = true ∧ am_bt (rf_agrees w) j = false := by
        refine Classical.byContradiction (fun hne => hc (rf_sub_iff.mpr (fun j hj hb => ?_)))
        cases ha : am_bt (rf_agrees w) j with
        | true => rfl
        | false =>
          have hjM : j < rf_M w := by
            rcases Nat.lt_or_ge j (rf_M w) with q | q
            · exact q
            · rw [hlo j q] at hb; exact absurd hb Bool.false_ne_true
          exact absurd ⟨j, hjM, hb, ha⟩ hne
      obtain ⟨j, hj, hj1, hj2⟩ := hex
      obtain ⟨y0, y1⟩ := h5 j hj hj1
      rw [rf_agrees, am_bt_and, Bool.and_eq_false_iff] at hj2
      have : y = 0 := by
        rcases hj2 with q | q
        · have := rf_uc_0 hI q; omega
        · have := rf_uc_0 hI q; omega
      rw [this]
/-- counted by memories, counted by places -/
theorem rf_cnt_places {s N : Nat} (hN : N = 16) (hI : rf_Is w s) (hM : rf_M w < 17) (p : Nat → Bool) : ∀ n, n ≤ rf_kn w s → rf_cnt (fun m => am_bt (rf_bits (rf_li w s) n) m && p m) N = rf_cnt (fun k => p (rf_li w s k)) n
  | 0, _ => rf_cnt_0 N (fun k _ => by show (am_bt 0 k && p k) = false; rw [am_bt_0]; rfl)
  | n + 1, hn => by
    have ih := rf_cnt_places hN hI hM p n (by omega)
    have hl : ∀ k, k < rf_kn w s → rf_li w s k < rf_M w := fun k hk => rf_li_lt hI hk
    have hb : ∀ n, n ≤ rf_kn w s → ∀ j, j < 32 → (am_bt (rf_bits (rf_li w s) n) j = true ↔ ∃ k, k < n ∧ rf_li w s k = j) := fun n hn j hj => rf_bits_bt hj _ (fun k hk => by have := hl k (by omega); omega)
    have hnew : am_bt (rf_bits (rf_li w s) n) (rf_li w s n) = false := by
      have hln := hl n (by omega)
      cases h : am_bt (rf_bits (rf_li w s) n) (rf_li w s n) with
      | false => rfl
      | true =>
        obtain ⟨k, hk, e⟩ := (hb n (by omega) _ (by omega)).mp h
        have := hI.2.2.2.2.2.2.1 k n (by omega) (by omega) e
        omega
    have hln := hl n (by omega)
    have hst : ∀ m, m < 16 → am_bt (rf_bits (rf_li w s) (n + 1)) m = (am_bt (rf_bits (rf_li w s) n) m || decide (m = rf_li w s n)) := fun m hm => by
      rw [rf_bits, am_bt_or, am_bt_1 (by omega) (by omega)]
    rw [show rf_cnt (fun k => p (rf_li w s k)) (n + 1) = rf_cnt (fun k => p (rf_li w s k)) n + (if p (rf_li w s n) = true then 1 else 0) from rfl]
    by_cases hp : p (rf_li w s n) = true
    · rw [if_pos hp, ← ih, ← rf_cnt_clear (p := fun m => am_bt (rf_bits (rf_li w s) (n + 1)) m && p m) (k := rf_li w s n) (by rw [hst _ (by omega), decide_eq_true rfl, Bool.or_true, hp]; rfl) N (by omega)]
      refine congrArg (· + 1) (rf_cnt_congr (p := fun j => (am_bt (rf_bits (rf_li w s) (n + 1)) j && p j) && decide (j ≠ rf_li w s n)) (q := fun m => am_bt (rf_bits (rf_li w s) n) m && p m) N (fun m hm => ?_))
      show ((am_bt (rf_bits (rf_li w s) (n + 1)) m && p m) && decide (m ≠ rf_li w s n)) = (am_bt (rf_bits (rf_li w s) n) m && p m)
      rw [hst m (by omega)]
      by_cases e : m = rf_li w s n
      · rw [e, hnew, show decide (rf_li w s n ≠ rf_li w s n) = false from decide_eq_false (fun z => z rfl), Bool.and_false, Bool.false_and]
      · rw [decide_eq_false e, Bool.or_false, decide_eq_true (show m ≠ rf_li w s n from e), Bool.and_true]
    · rw [if_neg hp, Nat.add_zero, ← ih]
      refine rf_cnt_congr (p := fun m => am_bt (rf_bits (rf_li w s) (n + 1)) m && p m) (q := fun m => am_bt (rf_bits (rf_li w s) n) m && p m) N (fun m hm => ?_)
      show (am_bt (rf_bits (rf_li w s) (n + 1)) m && p m) = (am_bt (rf_bits (rf_li w s) n) m && p m)
      rw [hst m (by omega)]
      by_cases e : m = rf_li w s n
      · rw [e, Bool.eq_false_iff.mpr hp, Bool.and_false, Bool.and_false]
      · rw [decide_eq_false e, Bool.or_false]
end
end SPEC29
