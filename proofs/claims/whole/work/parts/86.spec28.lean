/-! THE CLASS'S SUMS against the reference's: usable in all, a treaty undone -/
section SPEC28
section
variable {w : rf_W}
theorem rf_ui_one (hI : rf_I w) {d : Nat} (hd : d < 2) : ∀ n, n ≤ rf_S w → rf_ui w (nI d) n = rf_au w (nI 1 <<< (nI d &&& 31)) n
  | 0, _ => rfl
  | n + 1, hn => by
    rw [rf_ui, rf_au, rf_ui_one hI hd n (by omega)]
    obtain ⟨e, h2⟩ := (hI.2.1 n (by omega)).1
    have h2 : rf_ofn w n 0 < 2 := h2
    have e : rf_of w n 0 = nI (rf_ofn w n 0) := e
    rw [am_bt_1 (by omega) (by omega)]
    by_cases h : rf_ofn w n 0 = d
    · rw [if_pos (by rw [e, h]), if_pos (decide_eq_true h)]
    · rw [if_neg (fun z => h ?_), if_neg (by rw [decide_eq_false h]; exact Bool.false_ne_true)]
      rw [e] at z
      have h3 := congrArg rf_nat z
      rw [rf_nat_nI (by omega), rf_nat_nI (by omega)] at h3
      exact h3
theorem rf_ui_two (hI : rf_I w) : ∀ n, n ≤ rf_S w → rf_ui w (nI 0) n + rf_ui w (nI 1) n = rf_au w (nI 3) n
  | 0, _ => by rw [rf_ui, rf_ui, rf_au]; rfl
  | n + 1, hn => by
    have ih := rf_ui_two hI n (by omega)
    obtain ⟨e, h2⟩ := (hI.2.1 n (by omega)).1
    have h2 : rf_ofn w n 0 < 2 := h2
    have e : rf_of w n 0 = nI (rf_ofn w n 0) := e
    have hb : am_bt (nI 3) (rf_ofn w n 0) = true := by
      rcases (show rf_ofn w n 0 = 0 ∨ rf_ofn w n 0 = 1 by omega) with q | q <;> rw [q] <;> decide
    rw [rf_ui, rf_ui, rf_au, if_pos hb, ← ih]
    rcases (show rf_ofn w n 0 = 0 ∨ rf_ofn w n 0 = 1 by omega) with q | q
    · rw [if_pos (by rw [e, q]), if_neg (by rw [e, q]; decide)]
      rw [show nI 0 = (0 : Int32) from rfl, Int32.add_zero, Int32.add_assoc, Int32.add_assoc, Int32.add_comm (rf_pc _)]
    · rw [if_neg (by rw [e, q]; decide), if_pos (by rw [e, q])]
      rw [show nI 0 = (0 : Int32) from rfl, Int32.add_zero, Int32.add_assoc]
/-- how many of a side it is usable to -/
def rf_uc (w : rf_W) (d m : Nat) : Nat := rf_bc (rf_usersOf w (nI d) m)
theorem rf_uc_eq (hI : rf_I w) {d m : Nat} : rf_pc (rf_usersOf w (nI d) m) = nI (rf_uc w d m) ∧ rf_uc w d m ≤ 10 := by
  have hS : rf_S w < 11 := hI.1.2.1.2
  have hlo : am_lo (rf_usersOf w (nI d) m) 10 := fun k hk => by rw [rf_usersOf, am_bt_and, rf_side_lo hI k hk, Bool.and_false]
  refine ⟨rf_pc_bc (am_lo_mono hlo (by omega)), ?_⟩
  have key : ∀ n, rf_cnt (am_bt (rf_usersOf w (nI d) m)) (10 + n) ≤ 10 := by
    intro n
    induction n with
    | zero => exact rf_cnt_le _ 10
    | succ n ih => rw [← Nat.add_assoc, rf_cnt, hlo (10 + n) (by omega), if_neg Bool.false_ne_true]; exact ih
  exact key 6
theorem rf_un_tr (hI : rf_I w) {set : Int32} : ∀ n, ((∀ m, m < n → am_bt set m = false) ∧ rf_un w set n = -1 ∧ rf_tr w set n = nI 10) ∨ ((∃ m, m < n ∧ am_bt set m = true) ∧ ∃ y, y ≤ 10 ∧ rf_un w set n = nI y ∧ rf_tr w set n = nI y ∧ ∀ m, m < n → am_bt set m = true → y ≤ rf_uc w 0 m ∧ y ≤ rf_uc w 1 m)
  | 0 => Or.inl ⟨fun m hm => absurd hm (by omega), rfl, rfl⟩
  | n + 1 => by
    have ih := rf_un_tr hI (set := set) n
    obtain ⟨u0, v0⟩ := rf_uc_eq hI (d := 0) (m := n)
    obtain ⟨u1, v1⟩ := rf_uc_eq hI (d := 1) (m := n)
    have hun : rf_un w set (n + 1) = if am_bt set n = true then (if rf_un w set n = -1 then nI (min (rf_uc w 0 n) (rf_uc w 1 n)) else rf_min (rf_un w set n) (nI (min (rf_uc w 0 n) (rf_uc w 1 n)))) else rf_un w set n := by
      rw [← rf_min_N (by omega) (by omega), ← u0, ← u1]; rfl
    have htr : rf_tr w set (n + 1) = if am_bt set n = true then rf_min (rf_tr w set n) (nI (min (rf_uc w 0 n) (rf_uc w 1 n))) else rf_tr w set n := by
      rw [← rf_min_N (by omega) (by omega), ← u0, ← u1]; rfl
    rw [hun, htr]
    by_cases hb : am_bt set n = true
    · rw [if_pos hb, if_pos hb]
      refine Or.inr ⟨⟨n, by omega, hb⟩, ?_⟩
      rcases ih with ⟨h1, h2, h3⟩ | ⟨h1, y, h2, h3, h4, h5⟩
      · rw [if_pos h2, h3, rf_min_N (by omega) (by omega)]
        refine ⟨min (rf_uc w 0 n) (rf_uc w 1 n), by omega, rfl, by rw [Nat.min_eq_right (by omega)], fun m hm hm2 => ?_⟩
        by_cases e : m = n
        · rw [e]; omega
        · rw [h1 m (by omega)] at hm2; exact absurd hm2 Bool.false_ne_true
      · have hne : ¬ rf_un w set n = -1 := fun z => by
          rw [h3] at z
          have h9 := congrArg Int32.toInt z
          rw [nI_toInt (by omega), show (-1 : Int32).toInt = -1 from by decide] at h9
          omega
        rw [if_neg hne, h3, h4, rf_min_N (by omega) (by omega)]
        refine ⟨min y (min (rf_uc w 0 n) (rf_uc w 1 n)), by omega, rfl, rfl, fun m hm hm2 => ?_⟩
        by_cases e : m = n
        · rw [e]; omega
        · have := h5 m (by omega) hm2
          omega
    · rw [if_neg hb, if_neg hb]
      rcases ih with ⟨h1, h2⟩ | ⟨⟨m, h1, h1b⟩, y, h2, h3, h4, h5⟩
      · refine Or.inl ⟨fun m hm => ?_, h2⟩
        by_cases e : m = n
        · rw [e]; exact Bool.eq_false_iff.mpr hb
        · exact h1 m (by omega)
      · refine Or.inr ⟨⟨m, by omega, h1b⟩, y, h2, h3, h4, fun m hm hm2 => ?_⟩
        by_cases e : m = n
        · rw [e] at hm2; exact absurd hm2 hb
        · exact h5 m (by omega) hm2
end
end SPEC28
