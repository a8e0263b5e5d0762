/-! THE CLASS'S CELLS and the reference's world: lore at cell b, scene at cell b, law at cell b -/
section CLS2
def cl_Lo (h : am_H) (b : Nat) (w : rf_W) : Prop :=
  (h b 0 = w 3 ∧ h b 1 = w 0 ∧ h b 2 = w 1 ∧ h b 3 = w 2) ∧
  (∀ m, m < rf_M w → h (b + 1) m = rf_mem w m 0 ∧ h (b + 2) m = rf_mem w m 1 ∧ h (b + 3) m = rf_bears w m ∧ h (b + 4) m = rf_rests w m ∧ h (b + 5) m = rf_mem w m 2) ∧
  (∀ s, s < rf_S w → h (b + 6) s = rf_of w s 0 ∧ h (b + 7) s = rf_of w s 22 ∧ h (b + 8) s = rf_of w s 2 ∧ ∀ k, k < rf_ofn w s 2 → h (b + 9) (s * 6 + k) = rf_of w s (3 + k)) ∧
  (∀ o, o < rf_O w → h (b + 10) o = rf_ord w o 0 ∧ h (b + 11) o = rf_ord w o 1) ∧
  (h (b + 12) 0 = w 11 ∧ h (b + 12) 1 = w 12)
def cl_row (w : rf_W) (a : Nat) : Nat := (rf_nat (w 7) - 1 - a) % 60
def cl_Sc (h : am_H) (b : Nat) (w : rf_W) : Prop :=
  (h b 0 = w 5 ∧ h b 1 = w 10 ∧ h b 2 = w 7 ∧ h b 3 = w 8 ∧ h b 4 = w 6) ∧
  (∀ s, s < rf_S w → h (b + 1) s = rf_of w s 1 ∧ h (b + 2) s = rf_pl w s ∧ h (b + 3) s = rf_of w s 9 ∧ h (b + 4) s = rf_known w s ∧ h (b + 5) s = rf_use w s ∧ ∀ k, k < rf_kn w s → h (b + 6) (s * 12 + k) = rf_of w s (10 + k)) ∧
  (∀ f, f < rf_F w → h (b + 7) f = rf_fld w f 0 ∧ h (b + 8) f = rf_fld w f 1 ∧ h (b + 9) f = rf_fld w f 2) ∧
  (rf_G w = min 60 (rf_nat (w 7)) ∧ ∀ a, a < rf_G w → h (b + 10) (cl_row w a) = rf_log w a 0 ∧ h (b + 11) (cl_row w a) = rf_log w a 1 ∧ h (b + 12) (cl_row w a) = rf_log w a 2 ∧ h (b + 13) (cl_row w a) = rf_log w a 3 ∧ h (b + 14) (cl_row w a) = rf_log w a 4)
/-- the class's code of a step of the law -/
def cl_op (w : rf_W) (i : Nat) : Int32 := if rf_sc w i = 8 then w (780 + 2 * i + 1) else if rf_sc w i < 8 then nI (1000 + rf_sc w i) else nI (999 + rf_sc w i)
def cl_La (h : am_H) (b : Nat) (w : rf_W) : Prop :=
  (rf_nat (w 4) = 0 → h b 0 = -1) ∧ (0 < rf_nat (w 4) → h b 0 = w 731 ∧ ∀ n, n < rf_nat (w 731) → h (b + 1) n = w (732 + 4 * n) ∧ h (b + 2) n = w (732 + 4 * n + 1) ∧ h (b + 3) n = w (732 + 4 * n + 2) ∧ h (b + 4) n = w (732 + 4 * n + 3) ∧ ∀ i, rf_nat (w (732 + 4 * n + 2)) ≤ i → i < rf_nat (w (732 + 4 * n + 3)) → h (b + 5) i = cl_op w i)
/-- numbers that only grow -/
def cl_Bd (w : rf_W) : Prop := rf_n (w 7) 536870912 ∧ rf_n (w 5) 536870912
theorem cl_Lo_eq {h h' : am_H} {b : Nat} {w : rf_W} (e : ∀ i, b ≤ i → i ≤ b + 12 → h' i = h i) (L : cl_Lo h b w) : cl_Lo h' b w := by
  unfold cl_Lo
  rw [e b (by omega) (by omega), e (b + 1) (by omega) (by omega), e (b + 2) (by omega) (by omega), e (b + 3) (by omega) (by omega), e (b + 4) (by omega) (by omega), e (b + 5) (by omega) (by omega), e (b + 6) (by omega) (by omega), e (b + 7) (by omega) (by omega), e (b + 8) (by omega) (by omega), e (b + 9) (by omega) (by omega), e (b + 10) (by omega) (by omega), e (b + 11) (by omega) (by omega), e (b + 12) (by omega) (by omega)]
  exact L
theorem cl_Sc_eq {h h' : am_H} {b : Nat} {w : rf_W} (e : ∀ i, b ≤ i → i ≤ b + 14 → h' i = h i) (S : cl_Sc h b w) : cl_Sc h' b w := by
  unfold cl_Sc
  rw [e b (by omega) (by omega), e (b + 1) (by omega) (by omega), e (b + 2) (by omega) (by omega), e (b + 3) (by omega) (by omega), e (b + 4) (by omega) (by omega), e (b + 5) (by omega) (by omega), e (b + 6) (by omega) (by omega), e (b + 7) (by omega) (by omega), e (b + 8) (by omega) (by omega), e (b + 9) (by omega) (by omega), e (b + 10) (by omega) (by omega), e (b + 11) (by omega) (by omega), e (b + 12) (by omega) (by omega), e (b + 13) (by omega) (by omega), e (b + 14) (by omega) (by omega)]
  exact S
theorem cl_plan {h : am_H} {b : Nat} {w : rf_W} {d : Nat} (L : cl_Lo h b w) (hd : d < 2) : h (b + 12) d = w (11 + d) := by
  rcases (show d = 0 ∨ d = 1 by omega) with e | e
  · subst e; exact L.2.2.2.2.1
  · subst e; exact L.2.2.2.2.2
end CLS2
