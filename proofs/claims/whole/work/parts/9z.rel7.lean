/-! THE LOOP: what is fed -/
section REL7
theorem cl_byt (y : Int32) : ∃ m, m < 256 ∧ y &&& nI 255 = nI m ∧ (m < 128 → y.toInt8.toInt32.toInt8.toInt32 = nI m) ∧ (128 ≤ m → y.toInt8.toInt32.toInt8.toInt32 < 0) := by
  have hl := y.toBitVec.isLt
  have e8 : y.toInt8.toInt32.toInt8.toInt32 = y.toInt8.toInt32 := congrArg Int8.toInt32 (Int8.toInt8_toInt32 _)
  have ei : y.toInt8.toInt32.toInt = Int.bmod y.toInt 256 := by rw [Int8.toInt_toInt32, Int32.toInt_toInt8]
  have et : y.toInt = y.toBitVec.toInt := rfl
  have hm : y.toInt % 256 = ((y.toBitVec.toNat % 256 : Nat) : Int) := by
    rw [et, BitVec.toInt_eq_toNat_cond]
    split <;> omega
  have hb : Int.bmod y.toInt 256 = if (y.toBitVec.toNat % 256 : Nat) < 128 then ((y.toBitVec.toNat % 256 : Nat) : Int) else ((y.toBitVec.toNat % 256 : Nat) : Int) - 256 := by
    rw [Int.bmod_def]
    show (if y.toInt % 256 < (256 + 1) / 2 then y.toInt % 256 else y.toInt % 256 - 256) = _
    rw [hm]
    by_cases h : (y.toBitVec.toNat % 256 : Nat) < 128
    · rw [if_pos h, if_pos (by omega)]
    · rw [if_neg h, if_neg (by omega)]
  have h256 : y.toBitVec.toNat % 256 < 256 := Nat.mod_lt _ (by decide)
  refine ⟨y.toBitVec.toNat % 256, h256, ?_, fun h => ?_, fun h => ?_⟩
  · obtain ⟨j, hj, e⟩ := pk_andE y (m := nI 255) 8 (by decide)
    have hj2 : j < 256 := hj
    rw [e]
    have e2 := congrArg (fun z : Int32 => z.toBitVec.toNat) e
    have e3 : y.toBitVec.toNat &&& 255 = j := by
      have e4 : (y &&& nI 255).toBitVec.toNat = y.toBitVec.toNat &&& 255 := BitVec.toNat_and _ _
      have e5 : (nI j).toBitVec.toNat = j := by
        have h1 := nI_toInt (show j < 2147483648 by omega)
        have h2 : (nI j).toInt = (nI j).toBitVec.toInt := rfl
        rw [h2, BitVec.toInt_eq_toNat_cond] at h1
        split at h1 <;> omega
      exact e4.symm.trans (e2.trans e5)
    rw [← e3, show (255 : Nat) = 2 ^ 8 - 1 from rfl, Nat.and_two_pow_sub_one_eq_mod]
  · rw [e8]
    apply Int32.toInt_inj.mp
    rw [ei, hb, if_pos h, nI_toInt (by omega)]
  · rw [e8, Int32.lt_iff_toInt_lt, ei, hb, if_neg (by omega), show (0 : Int32).toInt = 0 from by decide]
    omega
/-- the five numbers' bytes -/
theorem rf_fd_at {t f : rf_W} {n j : Nat} : ∀ i, rf_fd t n f i (n + j) = if j < i then rf_fb f j else t (n + j)
  | 0 => by rw [if_neg (by omega)]; rfl
  | i + 1 => by
    rw [rf_fd]
    by_cases e : j = i
    · subst e; rw [rf_upd_eq, if_pos (by omega)]
    · rw [rf_upd_ne (by omega), rf_fd_at i]
      by_cases h : j < i
      · rw [if_pos h, if_pos (by omega)]
      · rw [if_neg h, if_neg (by omega)]
theorem rf_fd_lo {t f : rf_W} {n k : Nat} (h : k < n) : ∀ i, rf_fd t n f i k = t k
  | 0 => rfl
  | i + 1 => by rw [rf_fd, rf_upd_ne (by omega)]; exact rf_fd_lo h i
theorem cl_ad_lo {f : Nat → Int32} {n k : Nat} {x : Int32} (h : k < n ∨ n + 4 ≤ k) : cl_ad f n x k = f k := by rw [cl_ad, rf_upd_ne (by omega), rf_upd_ne (by omega), rf_upd_ne (by omega), rf_upd_ne (by omega)]
theorem cl_ad_at {f : Nat → Int32} {n q : Nat} {x : Int32} (hq : q < 4) : cl_ad f n x (n + q) = cl_sh x (24 - 8 * q) := by
  rw [cl_ad]
  rcases (show q = 0 ∨ q = 1 ∨ q = 2 ∨ q = 3 by omega) with rfl | rfl | rfl | rfl
  · rw [rf_upd_ne (by omega), rf_upd_ne (by omega), rf_upd_ne (by omega), Nat.add_zero, rf_upd_eq]
  · rw [rf_upd_ne (by omega), rf_upd_ne (by omega), rf_upd_eq]
  · rw [rf_upd_ne (by omega), rf_upd_eq]
  · rw [rf_upd_eq]
theorem cl_fed_b {f t g : Nat → Int32} {n p : Nat} {x : Int32} {v : rf_W} (hx : v p = x) {q : Nat} (hq : q < 4) (e : f (n + 4 * p + q) = cl_sh x (24 - 8 * q)) (e2 : t (n + (4 * p + q)) = rf_fb v (4 * p + q)) : ∃ m, m < 256 ∧ f (n + 4 * p + q) = nI m ∧ (m < 128 → t (n + 4 * p + q) = nI m) ∧ (128 ≤ m → t (n + 4 * p + q) < 0) := by
  have e3 : t (n + 4 * p + q) = (x >>> (nI (24 - 8 * q) &&& 31)).toInt8.toInt32.toInt8.toInt32 := by
    rw [show n + 4 * p + q = n + (4 * p + q) by omega, e2, rf_fb, vp_nar_byte, show (4 * p + q) / 4 = p by omega, show (4 * p + q) % 4 = q by omega, hx]
  obtain ⟨m, h1, h2, h3, h4⟩ := cl_byt (x >>> (nI (24 - 8 * q) &&& 31))
  exact ⟨m, h1, e.trans h2, fun h => by rw [e3]; exact h3 h, fun h => by rw [e3]; exact h4 h⟩
theorem cl_by_fed {f t v : Nat → Int32} {n : Nat} {a b c d e : Int32} (h : cl_by f t n) : cl_by (cl_ad (cl_ad (cl_ad (cl_ad (cl_ad f n a) (n + 4) b) (n + 8) c) (n + 12) d) (n + 16) e) (rf_fd t n (rf_fv v a b c d e) 20) (n + 20) := by
  intro k hk
  by_cases hkn : k < n
  · rw [cl_ad_lo (Or.inl (by omega)), cl_ad_lo (Or.inl (by omega)), cl_ad_lo (Or.inl (by omega)), cl_ad_lo (Or.inl (by omega)), cl_ad_lo (Or.inl hkn), rf_fd_lo hkn]
    exact h k hkn
  · obtain ⟨p, q, hp, hq, rfl⟩ : ∃ p q, p < 5 ∧ q < 4 ∧ k = n + 4 * p + q := ⟨(k - n) / 4, (k - n) % 4, by omega, by omega, by omega⟩
    have et : rf_fd t n (rf_fv v a b c d e) 20 (n + (4 * p + q)) = rf_fb (rf_fv v a b c d e) (4 * p + q) := by rw [rf_fd_at, if_pos (by omega)]
    rcases (show p = 0 ∨ p = 1 ∨ p = 2 ∨ p = 3 ∨ p = 4 by omega) with rfl | rfl | rfl | rfl | rfl
    · exact cl_fed_b (g := f) (x := a) (by rw [rf_fv, rf_upd_ne (by decide), rf_upd_ne (by decide), rf_upd_ne (by decide), rf_upd_ne (by decide), rf_upd_eq]) hq (by rw [cl_ad_lo (Or.inl (by omega)), cl_ad_lo (Or.inl (by omega)), cl_ad_lo (Or.inl (by omega)), cl_ad_lo (Or.inl (by omega))]; exact cl_ad_at hq) et
    · exact cl_fed_b (g := f) (x := b) (by rw [rf_fv, rf_upd_ne (by decide), rf_upd_ne (by decide), rf_upd_ne (by decide), rf_upd_eq]) hq (by rw [cl_ad_lo (Or.inl (by omega)), cl_ad_lo (Or.inl (by omega)), cl_ad_lo (Or.inl (by omega))]; exact cl_ad_at hq) et
    · exact cl_fed_b (g := f) (x := c) (by rw [rf_fv, rf_upd_ne (by decide), rf_upd_ne (by decide), rf_upd_eq]) hq (by rw [cl_ad_lo (Or.inl (by omega)), cl_ad_lo (Or.inl (by omega))]; exact cl_ad_at hq) et
    · exact cl_fed_b (g := f) (x := d) (by rw [rf_fv, rf_upd_ne (by decide), rf_upd_eq]) hq (by rw [cl_ad_lo (Or.inl (by omega))]; exact cl_ad_at hq) et
    · exact cl_fed_b (g := f) (x := e) (by rw [rf_fv, rf_upd_eq]) hq (cl_ad_at hq) et
theorem cl_R.feed {r : am_R} {h h9 c : am_H} {i : Nat} {x1 x2 x3 x4 x5 : Int32} (R : cl_R r h i) (P : h9 = if rf_nat ((h 322) 9) + 20 ≤ 400 then am_row (am_row h 2 (cl_ad (cl_ad (cl_ad (cl_ad (cl_ad (h 2) (rf_nat ((h 322) 9)) x1) (rf_nat ((h 322) 9) + 4) x2) (rf_nat ((h 322) 9) + 8) x3) (rf_nat ((h 322) 9) + 12) x4) (rf_nat ((h 322) 9) + 16) x5)) 1 (upd (h 1) 1 (nI (rf_nat ((h 322) 9) + 20))) else h) (F : ∀ j, j < 322 → c j = h9 j) (e322 : c 322 = (rf_feed (h 322) (h 328) (h 329) x1 x2 x3 x4 x5).2.1) (e328 : c 328 = (rf_feed (h 322) (h 328) (h 329) x1 x2 x3 x4 x5).2.2.2) (e323 : c 323 = h 323) (e324 : c 324 = h 324) (e327 : c 327 = h 327) : cl_R r c (i + 1) := by
  have ob := R.2.1.1.1
  by_cases q : rf_nat ((h 322) 9) + 20 ≤ 400
  · rw [if_pos q] at P
    rw [rf_feed, if_pos q] at e322 e328
    have e322 : c 322 = upd (upd (h 322) 0 (nI 0)) 9 (nI (rf_nat ((h 322) 9) + 20)) := e322
    have e328 : c 328 = rf_fd (h 328) (rf_nat ((h 322) 9)) (rf_fv (h 329) x1 x2 x3 x4 x5) 20 := e328
    have c9 : (c 322) 9 = nI (rf_nat ((h 322) 9) + 20) := by rw [e322, rf_upd_eq]
    exact R.tape (h9 := h9) (fun j a b => by rw [P, am_row_ne _ _ _ a, am_row_ne _ _ _ b]) F (by rw [c9]; exact rf_n_mk (by omega) (by omega)) (by rw [P, am_row_at, rf_upd_eq, c9]) (by rw [P, am_row_ne _ _ _ (by decide), am_row_at, c9, e328, rf_nat_nI (by omega)]; exact cl_by_fed R.2.1.2.2) (fun k a b => by rw [e322, rf_upd_ne b, rf_upd_ne a]) e323 e324 e327
  · rw [if_neg q] at P
    rw [rf_feed, if_neg q] at e322 e328
    have e322 : c 322 = upd (h 322) 0 (nI 0) := e322
    have e328 : c 328 = h 328 := e328
    have o9 : ∀ k, k ≠ 0 → (c 322) k = (h 322) k := fun k a => by rw [e322, rf_upd_ne a]
    exact R.tape (h9 := h9) (fun j _ _ => by rw [P]) F (by rw [o9 9 (by decide)]; exact ob) (by rw [P, o9 9 (by decide)]; exact R.2.1.2.1) (by rw [P, o9 9 (by decide), e328]; exact R.2.1.2.2) (fun k a _ => o9 k a) e323 e324 e327
end REL7
