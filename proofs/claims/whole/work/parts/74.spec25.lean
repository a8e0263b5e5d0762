/-! THE LAW'S LINES over the class's pile -/
section SPEC25
theorem rf_tl_pre {w : rf_W} {i : Nat} {ts : List Bool} : ∀ d c, (∃ out, rf_tl w (c + d) i ts = some out) → ∃ out, rf_tl w c i ts = some out
  | 0, _, h => h
  | d + 1, c, ⟨out, h⟩ => by
    refine rf_tl_pre d c ?_
    rw [← Nat.add_assoc, rf_tl_snoc] at h
    cases e : rf_tl w (c + d) i ts with
    | none => rw [e] at h; exact absurd h (by simp)
    | some o => exact ⟨o, rfl⟩
theorem cl_run {w : rf_W} {s i C : Nat} {p v code : Nat → Int32} {out : List Bool} (hp : ∀ c, c < 8 → p c = rf_fact w c (nI 0) s) (hc : ∀ k, i ≤ k → k < i + C → code k = cl_op w k) (h8 : ∀ k, i ≤ k → k < i + C → rf_sc w k = 8 → rf_n (w (780 + 2 * k + 1)) 1000) (hO : rf_okc w C i 0) (hT : rf_tl w C i [] = some out) :
    ∀ c, c ≤ C → (∃ ts, rf_tl w c i [] = some ts ∧ rf_tkd (rf_evl w s c i []) ts) ∧ rf_hv (cl_rn p code v i c).1 (rf_evl w s c i []) ∧ (cl_rn p code v i c).2 = (rf_evl w s c i []).length ∧ (rf_evl w s c i []).length ≤ 39 ∧ rf_okc w (C - c) (i + c) (rf_evl w s c i []).length ∧
      (c < C → (rf_nat (code (i + c)) < 1014 ∧ code (i + c) = nI (rf_nat (code (i + c)))) ∧ (1008 ≤ rf_nat (code (i + c)) → rf_nat (code (i + c)) = 1011 → 1 ≤ (cl_rn p code v i c).2) ∧ (1008 ≤ rf_nat (code (i + c)) → rf_nat (code (i + c)) ≠ 1011 → 2 ≤ (cl_rn p code v i c).2)) := by
  have stp : ∀ c, c < C → (∃ ts, rf_tl w c i [] = some ts ∧ rf_tkd (rf_evl w s c i []) ts) → rf_hv (cl_rn p code v i c).1 (rf_evl w s c i []) → (cl_rn p code v i c).2 = (rf_evl w s c i []).length → rf_okc w (C - c) (i + c) (rf_evl w s c i []).length →
      ((rf_nat (code (i + c)) < 1014 ∧ code (i + c) = nI (rf_nat (code (i + c)))) ∧ (1008 ≤ rf_nat (code (i + c)) → rf_nat (code (i + c)) = 1011 → 1 ≤ (cl_rn p code v i c).2) ∧ (1008 ≤ rf_nat (code (i + c)) → rf_nat (code (i + c)) ≠ 1011 → 2 ≤ (cl_rn p code v i c).2)) ∧
      (∃ ts, rf_tl w (c + 1) i [] = some ts ∧ rf_tkd (rf_evl w s (c + 1) i []) ts) ∧ rf_hv (cl_rn p code v i (c + 1)).1 (rf_evl w s (c + 1) i []) ∧ (cl_rn p code v i (c + 1)).2 = (rf_evl w s (c + 1) i []).length := by
    rintro c hcC ⟨ts, h1, h2⟩ h3 h4 h5
    obtain ⟨ts', h6⟩ := rf_tl_pre (C - (c + 1)) (c + 1) ⟨out, by rw [show c + 1 + (C - (c + 1)) = C by omega]; exact hT⟩
    have h7 : rf_tst (rf_sc w (i + c)) ts = some ts' := by
      rw [rf_tl_snoc, h1] at h6
      exact h6
    rw [show C - c = C - (c + 1) + 1 by omega, rf_okc] at h5
    obtain ⟨a1, a2, a3, a4, a5, a6⟩ := cl_step (top := (cl_rn p code v i c).2) hp (hc (i + c) (by omega) (by omega)) h5.1.2 (h8 (i + c) (by omega) (by omega)) h3 h4 h2 h7
    refine ⟨⟨a1, a2, a3⟩, ⟨ts', h6, by rw [rf_evl_snoc]; exact a6⟩, by rw [rf_evl_snoc]; exact a4, by rw [rf_evl_snoc]; exact a5⟩
  have key : ∀ c, c ≤ C → (∃ ts, rf_tl w c i [] = some ts ∧ rf_tkd (rf_evl w s c i []) ts) ∧ rf_hv (cl_rn p code v i c).1 (rf_evl w s c i []) ∧ (cl_rn p code v i c).2 = (rf_evl w s c i []).length ∧ (rf_evl w s c i []).length ≤ 39 ∧ rf_okc w (C - c) (i + c) (rf_evl w s c i []).length := by
    intro c
    induction c with
    | zero => intro _; exact ⟨⟨[], rfl, trivial⟩, fun k hk => absurd hk (by show ¬ k < 0; omega), rfl, Nat.zero_le _, hO⟩
    | succ c ih =>
      intro hcC
      obtain ⟨k1, k2, k3, k4, k5⟩ := ih (by omega)
      obtain ⟨-, b2, b3, b4⟩ := stp c (by omega) k1 k2 k3 k5
      have hlen : (rf_evl w s (c + 1) i []).length ≤ 39 ∧ rf_okc w (C - (c + 1)) (i + (c + 1)) (rf_evl w s (c + 1) i []).length := by
        have hs := stp c (by omega) k1 k2 k3 k5
        rw [show C - c = C - (c + 1) + 1 by omega, rf_okc] at k5
        obtain ⟨o1, o2, o3, o4⟩ := k5
        rw [rf_evl_snoc, rf_stl]
        by_cases q8 : rf_sc w (i + c) ≤ 8
        · rw [if_pos q8, List.length_cons]
          obtain ⟨p1, p2⟩ := o2 q8
          exact ⟨by omega, p2⟩
        · rw [if_neg q8]
          by_cases q12 : rf_sc w (i + c) = 12
          · rw [if_pos q12]
            obtain ⟨p1, p2⟩ := o3 (by omega) q12
            have e : ((nI 1 - (rf_evl w s c i []).getD 0 0) :: (rf_evl w s c i []).drop 1).length = (rf_evl w s c i []).length := by
              rw [List.length_cons, List.length_drop]; omega
            rw [e]
            exact ⟨k4, p2⟩
          · rw [if_neg q12]
            obtain ⟨p1, p2⟩ := o4 (by omega) q12
            have e : (rf_ap (rf_sc w (i + c)) ((rf_evl w s c i []).getD 1 0) ((rf_evl w s c i []).getD 0 0) :: (rf_evl w s c i []).drop 2).length = (rf_evl w s c i []).length - 1 := by
              rw [List.length_cons, List.length_drop]; omega
            rw [e]
            exact ⟨by omega, p2⟩
      exact ⟨b2, b3, b4, hlen.1, hlen.2⟩
  intro c hcC
  obtain ⟨k1, k2, k3, k4, k5⟩ := key c hcC
  exact ⟨k1, k2, k3, k4, k5, fun h => (stp c h k1 k2 k3 k5).1⟩
/-- at the end the one truth on the pile says whether the line holds -/
theorem cl_run_end {w : rf_W} {s n : Nat} {v : Nat → Int32} (hlt : rf_nat (w (732 + 4 * n + 2)) < rf_nat (w (732 + 4 * n + 3))) (hk : rf_tkd (rf_evl w s (rf_nat (w (732 + 4 * n + 3)) - rf_nat (w (732 + 4 * n + 2))) (rf_nat (w (732 + 4 * n + 2))) []) [true]) (hv : rf_hv v (rf_evl w s (rf_nat (w (732 + 4 * n + 3)) - rf_nat (w (732 + 4 * n + 2))) (rf_nat (w (732 + 4 * n + 2))) [])) : rf_holds w n s = decide (¬ v 0 = 0) := by
  rw [rf_holds]
  generalize rf_evl w s (rf_nat (w (732 + 4 * n + 3)) - rf_nat (w (732 + 4 * n + 2))) (rf_nat (w (732 + 4 * n + 2))) [] = l at hk hv
  match l, hk with
  | [x], hk =>
    have hx : v 0 = x := hv 0 (by show 0 < 1; omega)
    rw [hx]
    rcases hk.1 rfl with rfl | rfl <;> decide
theorem rf_holds_0 {w : rf_W} {s n : Nat} (h : ¬ rf_nat (w (732 + 4 * n + 2)) < rf_nat (w (732 + 4 * n + 3))) : rf_holds w n s = true := by
  rw [rf_holds, show rf_nat (w (732 + 4 * n + 3)) - rf_nat (w (732 + 4 * n + 2)) = 0 by omega, rf_evl]
  rfl
end SPEC25
