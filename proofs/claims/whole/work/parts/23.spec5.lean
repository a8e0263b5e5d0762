/-! WHAT THE REFERENCE CHANGES: its world's rows behind an act -/
section SPEC5
/-- n numbers of src from b on, laid into dst from a on -/
def rf_cp (dst src : rf_W) (a b n : Nat) : rf_W := fun k => if a ≤ k ∧ k < a + n then src (b + (k - a)) else dst k
theorem rf_cp_0 (dst src : rf_W) (a b : Nat) : rf_cp dst src a b 0 = dst := by
  funext k
  rw [rf_cp, if_neg (by omega)]
theorem rf_cp_out {dst src : rf_W} {a b n k : Nat} (h : k < a ∨ a + n ≤ k) : rf_cp dst src a b n k = dst k := by rw [rf_cp, if_neg (by omega)]
theorem rf_cp_in {dst src : rf_W} {a b n k : Nat} (h1 : a ≤ k) (h2 : k < a + n) : rf_cp dst src a b n k = src (b + (k - a)) := by rw [rf_cp, if_pos ⟨h1, h2⟩]
theorem rf_cp_s {dst src : rf_W} {a b n n' k : Nat} {v : Int32} (hk : k = a + n) (hv : v = src (b + n)) (hn : n' = n + 1) : upd (rf_cp dst src a b n) k v = rf_cp dst src a b n' := by
  subst hk; subst hv; subst hn
  funext j
  by_cases hj : j = a + n
  · subst hj
    rw [rf_cp_in (by omega) (by omega)]
    simp only [upd, if_true]
    congr 1
    omega
  · simp only [upd, if_neg hj, rf_cp]
    by_cases h1 : a ≤ j ∧ j < a + n
    · rw [if_pos h1, if_pos (by omega)]
    · rw [if_neg h1, if_neg (by omega)]
theorem rf_upd_eq {w : rf_W} {a : Nat} {v : Int32} : upd w a v a = v := by simp [upd]
theorem rf_upd_ne {w : rf_W} {a k : Nat} {v : Int32} (h : k ≠ a) : upd w a v k = w k := by simp [upd, h]
theorem rf_of_upd {w : rf_W} {a s k : Nat} {v : Int32} (h : 61 + 23 * s + k ≠ a) : rf_of (upd w a v) s k = rf_of w s k := rf_upd_ne h
def rf_seed1 (w : rf_W) : Int32 := 1103515245 * w 10 + nI 12345
def rf_dr (w : rf_W) : Nat := rf_nat ((rf_seed1 w >>> (nI 16 &&& 31)) &&& nI 32767)
theorem rf_dr_n (w : rf_W) : (rf_seed1 w >>> (nI 16 &&& 31)) &&& nI 32767 = nI (rf_dr w) ∧ rf_dr w < 32768 := by
  obtain ⟨j, hj, e⟩ := pk_andE (rf_seed1 w >>> (nI 16 &&& 31)) (m := nI 32767) 15 (by decide)
  rw [rf_dr, e]
  have h1 : j < 32768 := hj
  rw [rf_nat_nI (by omega)]
  exact ⟨rfl, h1⟩
def rf_draw (w : rf_W) : rf_W := upd w 10 (rf_seed1 w)
def rf_app (w : rf_W) (s m : Nat) : rf_W := upd (upd w (61 + 23 * s + (10 + rf_kn w s)) (nI m)) (61 + 23 * s + 9) (nI (rf_kn w s + 1))
def rf_learn (w : rf_W) (s m : Nat) : rf_W := bif rf_can w s m then upd (rf_app w s m) 8 (rf_app w s m 8 + nI 1) else w
def rf_fp (f : Nat → Bool) : Nat → Nat → Nat
  | 0, k => k
  | n + 1, k => if f k = true then k else rf_fp f n (k + 1)
def rf_pos (w : rf_W) (s m : Nat) : Nat := rf_fp (fun k => decide (rf_of w s (10 + k) = nI m)) (rf_kn w s) 0
theorem rf_fp_spec (f : Nat → Bool) : ∀ (n k : Nat), (∃ q, k ≤ q ∧ q < k + n ∧ f q = true) → k ≤ rf_fp f n k ∧ rf_fp f n k < k + n ∧ f (rf_fp f n k) = true ∧ ∀ j, k ≤ j → j < rf_fp f n k → f j = false
  | 0, k, ⟨q, h1, h2, _⟩ => absurd h2 (by omega)
  | n + 1, k, ⟨q, h1, h2, h3⟩ => by
    rw [rf_fp]
    by_cases hf : f k = true
    · rw [if_pos hf]
      exact ⟨Nat.le_refl k, by omega, hf, fun j h1 h2 => absurd h2 (by omega)⟩
    · rw [if_neg hf]
      have hq : k + 1 ≤ q := by
        rcases Nat.lt_or_ge k q with h | h
        · exact h
        · have : q = k := by omega
          subst this
          exact absurd h3 hf
      obtain ⟨a1, a2, a3, a4⟩ := rf_fp_spec f n (k + 1) ⟨q, hq, by omega, h3⟩
      refine ⟨by omega, by omega, a3, fun j h1 h2 => ?_⟩
      rcases Nat.lt_or_ge k j with h | h
      · exact a4 j h h2
      · have : j = k := by omega
        subst this
        exact Bool.eq_false_iff.mpr hf
def rf_lose (w : rf_W) (s m : Nat) : rf_W := upd (rf_cp w w (71 + 23 * s + rf_pos w s m) (72 + 23 * s + rf_pos w s m) (rf_kn w s - 1 - rf_pos w s m)) (61 + 23 * s + 9) (nI (rf_kn w s - 1))
def rf_remove (w : rf_W) (k : Nat) : rf_W := upd (rf_cp w w (311 + 3 * k) (314 + 3 * k) (3 * (rf_F w - 1 - k))) 6 (nI (rf_F w - 1))
def rf_put (w : rf_W) (m p x : Int32) : rf_W := upd (upd (upd (upd w (311 + 3 * rf_F w) m) (311 + 3 * rf_F w + 1) p) (311 + 3 * rf_F w + 2) x) 6 (nI (rf_F w + 1))
def rf_lie (w : rf_W) (m p x : Int32) : rf_W := rf_put (if rf_F w = 40 then rf_remove w 0 else w) m p x
/-- the log, a row further; what lies from 436 + j on -/
def rf_sr (w : rf_W) (j : Nat) : rf_W := fun a => if 436 + j ≤ a ∧ a < 731 then w (a - 5) else w a
theorem rf_sr_295 (w : rf_W) : rf_sr w 295 = w := by
  funext a
  rw [rf_sr, if_neg (by omega)]
theorem rf_sr_s {w : rf_W} {j k : Nat} {v : Int32} (hj : j < 295) (hk : k = 436 + j) (hv : v = w (431 + j)) : upd (rf_sr w (j + 1)) k v = rf_sr w j := by
  subst hk; subst hv
  funext a
  by_cases ha : a = 436 + j
  · subst ha
    rw [rf_upd_eq, rf_sr, if_pos (by omega)]
    congr 1
    omega
  · rw [rf_upd_ne ha, rf_sr, rf_sr]
    by_cases h1 : 436 + (j + 1) ≤ a ∧ a < 731
    · rw [if_pos h1, if_pos (by omega)]
    · rw [if_neg h1, if_neg (by omega)]
theorem rf_sr_out {w : rf_W} {j a : Nat} (h : a < 436 + j ∨ 731 ≤ a) : rf_sr w j a = w a := by rw [rf_sr, if_neg (by omega)]
def rf_logs (w : rf_W) (by_ whom m : Int32) (good : Bool) : rf_W :=
  upd (upd (upd (upd (upd (upd (rf_sr (upd w 7 (w 7 + nI 1)) 0) 431 (w 5)) 432 by_) 433 whom) 434 m) 435 (am_b good)) 9 (rf_min (nI 60) (w 9 + nI 1))
def rf_hit (w : rf_W) (by_ s : Nat) (good : Bool) : rf_W :=
  rf_logs (rf_lie (rf_lose w s (rf_takes w s good - 1)) (nI (rf_takes w s good - 1)) (rf_pl (rf_lose w s (rf_takes w s good - 1)) s) (nI s)) (nI by_) (nI s) (nI (rf_takes w s good - 1)) good
def rf_rd1 (all : Int32) (s o : Nat) : Nat → rf_W × Nat → rf_W × Nat
  | 0, x => x
  | m + 1, x => if am_bt all o = true ∧ am_bt (rf_of (rf_rd1 all s o m x).1 s 22) m = true then (rf_learn (rf_rd1 all s o m x).1 o m, (rf_rd1 all s o m x).2 + (if rf_can (rf_rd1 all s o m x).1 o m = true then 1 else 0)) else rf_rd1 all s o m x
def rf_rd2 (all : Int32) (s n : Nat) : Nat → rf_W × Nat → rf_W × Nat
  | 0, x => x
  | o + 1, x => rf_rd1 all s o n (rf_rd2 all s n o x)
def rf_read (w : rf_W) (s : Nat) : rf_W × Nat := rf_rd2 (rf_sideIn w (rf_of w s 0) (rf_pl w s)) s (rf_M w) (rf_S w) (w, 0)
end SPEC5
