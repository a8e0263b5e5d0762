/-! bounds of the law's sums -/
section SPEC7
theorem rf_sayn_le {w : rf_W} {what s : Nat} : ∀ n, (∀ k, k < n → rf_nat (w (732 + 4 * k + 1)) < 1000) → rf_sayn w what s n ≤ 1000 * n
  | 0, _ => Nat.le_refl 0
  | n + 1, h => by
    have h1 := rf_sayn_le (w := w) (what := what) (s := s) n (fun k hk => h k (by omega))
    have h2 := h n (by omega)
    rw [rf_sayn]
    split <;> omega
theorem rf_says_le {w : rf_W} {what s : Nat} : rf_says w what s ≤ 100 := by
  rw [rf_says]
  by_cases h : rf_nat (w 4) = 0
  · rw [if_pos h]
    split
    · omega
    · split <;> omega
  · rw [if_neg h]
    split <;> omega
end SPEC7
