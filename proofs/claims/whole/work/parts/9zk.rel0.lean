/-! WHAT STANDS BEHIND THE CONSTRUCTORS: class and reference side by side, before the first call -/
section REL0
def nz_r : am_R := nk_X12_init (nk_X11_init fun _ _ => .null)
def nz_h : am_H := nh_X12_init (nh_X11_init fun _ _ => 0)
def nz_is (v : Value) (j : Nat) : Bool := match v with
  | .ref i => i == j
  | _ => false
theorem nz_is_eq {v : Value} {j : Nat} (h : nz_is v j = true) : v = .ref j := by
  cases v with
  | ref i =>
    have e : i = j := by simpa [nz_is] using h
    rw [e]
  | _ => exact (Bool.false_ne_true h).elim
theorem nz_rs : am_rs nz_r := by
  have key : (am_rfl.all fun q => nz_is (nz_r q.1 q.2.1) q.2.2) = true := by decide +kernel
  intro q hq
  exact nz_is_eq (List.all_eq_true.mp key q hq)
theorem nz_pa : cl_pa nz_r 0 := by
  have key : ((List.range 12).all fun k => nz_is (nz_r 133 k) (134 + 15 * ((k + 0) % 12))) = true := by decide +kernel
  exact ⟨by decide, fun k hk => nz_is_eq (List.all_eq_true.mp key k (List.mem_range.mpr hk))⟩
theorem nz_w : ∀ k, k < 20 → k ≠ 10 → nz_h 323 k = nI 0 := by decide +kernel
theorem nz_o : ∀ k, k < 20 → k ≠ 14 → nz_h 322 k = nI 0 := by decide +kernel
theorem nz_n0 {x : Int32} {b : Nat} (h : x = nI 0) (hb : 0 < b) : rf_n x b := by rw [h]; exact ⟨(congrArg nI (rf_nat_nI (by decide))).symm, by rw [rf_nat_nI (by decide)]; exact hb⟩
theorem nz_R : cl_R nz_r nz_h 0 := by
  have n0 : ∀ k b, k < 20 → k ≠ 10 → 0 < b → rf_n (nz_h 323 k) b := fun k b h1 h2 h3 => nz_n0 (nz_w k h1 h2) h3
  have t0 : ∀ k, k < 20 → k ≠ 10 → rf_nat (nz_h 323 k) = 0 := fun k h1 h2 => by rw [nz_w k h1 h2]; exact rf_nat_nI (by decide)
  have hM : rf_M (nz_h 323) = 0 := t0 0 (by decide) (by decide)
  have hS : rf_S (nz_h 323) = 0 := t0 1 (by decide) (by decide)
  have hO : rf_O (nz_h 323) = 0 := t0 2 (by decide) (by decide)
  have hF : rf_F (nz_h 323) = 0 := t0 6 (by decide) (by decide)
  have hG : rf_G (nz_h 323) = 0 := t0 9 (by decide) (by decide)
  have h4 : rf_nat (nz_h 323 4) = 0 := t0 4 (by decide) (by decide)
  have h9 : rf_nat (nz_h 322 9) = 0 := by rw [nz_o 9 (by decide) (by decide)]; exact rf_nat_nI (by decide)
  have h7 : rf_rmd (nz_h 322) = 0 := by rw [rf_rmd, nz_o 7 (by decide) (by decide)]; exact rf_nat_nI (by decide)
  have lo : ∀ k n, k < 20 → k ≠ 10 → am_lo (nz_h 323 k) n := fun k n h1 h2 => by rw [nz_w k h1 h2, nI_0]; exact am_lo_0 n
  have I : rf_I (nz_h 323) := ⟨⟨n0 0 _ (by decide) (by decide) (by decide), n0 1 _ (by decide) (by decide) (by decide), n0 2 _ (by decide) (by decide) (by decide)⟩, fun s hs => absurd hs (by rw [hS]; exact Nat.not_lt_zero s), fun s hs => absurd hs (by rw [hM]; exact Nat.not_lt_zero s), fun s hs => absurd hs (by rw [hO]; exact Nat.not_lt_zero s),
    ⟨n0 3 _ (by decide) (by decide) (by decide), n0 4 _ (by decide) (by decide) (by decide), n0 6 _ (by decide) (by decide) (by decide), n0 9 _ (by decide) (by decide) (by decide)⟩, ⟨lo 11 _ (by decide) (by decide), lo 12 _ (by decide) (by decide)⟩, fun s hs => absurd hs (by rw [hF]; exact Nat.not_lt_zero s), fun s hs => absurd hs (by rw [hG]; exact Nat.not_lt_zero s)⟩
  have Lw : rf_Lw (nz_h 323) := fun z => absurd z (by rw [h4]; exact Nat.lt_irrefl 0)
  have Lk : rf_Lk (nz_h 323) := fun z => absurd z (by rw [h4]; exact Nat.lt_irrefl 0)
  have G : cl_G (nz_h 323) 0 := ⟨I, Lw, Lk, n0 7 _ (by decide) (by decide) (by decide), n0 5 _ (by decide) (by decide) (by decide)⟩
  have Lo : cl_Lo nz_h 4 (nz_h 323) := ⟨⟨by decide +kernel, by decide +kernel, by decide +kernel, by decide +kernel⟩, fun s hs => absurd hs (by rw [hM]; exact Nat.not_lt_zero s), fun s hs => absurd hs (by rw [hS]; exact Nat.not_lt_zero s), fun s hs => absurd hs (by rw [hO]; exact Nat.not_lt_zero s), by decide +kernel, by decide +kernel⟩
  have Sc : cl_Sc nz_h 25 (nz_h 323) := ⟨⟨by decide +kernel, by decide +kernel, by decide +kernel, by decide +kernel, by decide +kernel⟩, fun s hs => absurd hs (by rw [hS]; exact Nat.not_lt_zero s), fun s hs => absurd hs (by rw [hF]; exact Nat.not_lt_zero s), by rw [hG, t0 7 (by decide) (by decide)]; rfl, fun s hs => absurd hs (by rw [hG]; exact Nat.not_lt_zero s)⟩
  have La : cl_La nz_h 17 (nz_h 323) := ⟨fun _ => by decide +kernel, fun z => absurd z (by rw [h4]; exact Nat.lt_irrefl 0)⟩
  exact ⟨⟨G, Lo, Sc, La⟩, ⟨⟨nz_n0 (nz_o 9 (by decide) (by decide)) (by decide), nz_n0 (nz_o 12 (by decide) (by decide)) (by decide)⟩, by decide +kernel, fun k hk => absurd hk (by rw [h9]; exact Nat.not_lt_zero k)⟩, ⟨by decide +kernel, by decide +kernel, fun z => absurd (by decide +kernel) z⟩,
    ⟨nz_n0 (nz_o 7 (by decide) (by decide)) (by decide), ⟨by decide +kernel, 0, nz_pa, fun k hk => absurd hk (by rw [h7]; exact Nat.not_lt_zero k)⟩, fun k hk => absurd hk (by rw [h7]; exact Nat.not_lt_zero k)⟩⟩
end REL0
