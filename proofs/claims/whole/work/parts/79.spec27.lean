/-! AN HOUR changes the scene only -/
section SPEC27
section
variable {w : rf_W}
theorem rf_Es_lose {s m : Nat} (hs : s < 10) (hP : rf_pos w s m < rf_kn w s) (hkn : rf_kn w s < 13) : rf_Es w (rf_lose w s m) := ⟨fun a ha => rf_lose_out hP hkn (by omega), fun t k ht hk => by
    by_cases e : t = s
    · subst e
      rw [rf_lose_of hP (by omega) hkn, if_neg (by omega), if_neg (by omega)]
    · exact rf_lose_out hP hkn (by omega)⟩
theorem rf_Es_lie {m p x : Int32} (hF : rf_F w < 41) : rf_Es w (rf_lie w m p x) := ⟨fun a ha => by
    by_cases h : 311 ≤ a ∧ a < 431
    · omega
    · exact rf_lie_out (by omega) (by omega) hF, fun t k ht hk => rf_lie_out (by omega) (by omega) hF⟩
theorem rf_Es_logs {y x m : Int32} {g : Bool} : rf_Es w (rf_logs w y x m g) := ⟨fun a ha => rf_logs_out (by omega) (by omega) (by omega), fun t k ht hk => rf_logs_out (by omega) (by omega) (by omega)⟩
theorem rf_Es_hit {b s : Nat} {g : Bool} (hI : rf_I w) (hs : s < rf_S w) (hk : 0 < rf_kn w s) : rf_Es w (rf_hit w b s g) ∧ rf_hit w b s g 7 = w 7 + nI 1 := by
  have hS : rf_S w < 11 := hI.1.2.1.2
  have hk13 : rf_kn w s < 13 := (hI.2.1 s hs).2.2.2.2.1.2
  obtain ⟨ht0, htM, htq⟩ := rf_takes_ok (g := g) hI hs hk
  obtain ⟨hp1, -, -⟩ := rf_pos_spec htq
  have hF : rf_F (rf_lose w s (rf_takes w s g - 1)) < 41 := (rf_I_lose hI hs hp1).2.2.2.2.1.2.2.1.2
  refine ⟨(rf_Es_lose (by omega) hp1 hk13).tr ((rf_Es_lie hF).tr rf_Es_logs), ?_⟩
  rw [rf_hit, rf_logs, rf_upd_ne (by omega), rf_upd_ne (by omega), rf_upd_ne (by omega), rf_upd_ne (by omega), rf_upd_ne (by omega), rf_upd_ne (by omega), rf_sr_out (by omega), rf_upd_eq, rf_lie_out (by omega) (by omega) hF, rf_lose_out hp1 hk13 (by omega)]
theorem rf_n_up {x : Int32} {b : Nat} (h : rf_n x b) (hb : b < 2147483647) : rf_n x (b + 1) ∧ rf_n (x + nI 1) (b + 1) := by
  have h2 : rf_nat x < b := h.2
  refine ⟨⟨h.1, by omega⟩, ?_⟩
  rw [h.1, nI_add]
  exact rf_n_mk (by omega) (by omega)
theorem rf_shoot_es {s b : Nat} (hI : rf_I w) (_hs : s < rf_S w) (h7 : rf_n (w 7) b) (hb : b < 2147483647) : rf_Es w (rf_shoot w s) ∧ rf_n (rf_shoot w s 7) (b + 1) := by
  obtain ⟨u1, u2⟩ := rf_n_up h7 hb
  have e1 : rf_draw w 7 = w 7 := rf_upd_ne (by omega)
  have e2 : rf_draw (rf_draw w) 7 = w 7 := (rf_upd_ne (by omega)).trans e1
  have Ed : rf_Es w (rf_draw w) := ⟨fun _ _ => rf_upd_ne (by omega), fun _ _ _ _ => rf_upd_ne (by omega)⟩
  have Ed2 : rf_Es (rf_draw w) (rf_draw (rf_draw w)) := ⟨fun _ _ => rf_upd_ne (by omega), fun _ _ _ _ => rf_upd_ne (by omega)⟩
  rw [rf_shoot]
  by_cases h0 : rf_target w s = 0
  · rw [if_pos h0]; exact ⟨rf_Es.rf, u1⟩
  · rw [if_neg h0]
    obtain ⟨t1, t2⟩ := rf_target_ok (show 0 < rf_target w s by omega)
    by_cases h1 : rf_dr w % 100 < rf_says (rf_draw w) 0 s
    · rw [if_pos h1]
      obtain ⟨a1, a2⟩ := rf_Es_hit (b := s) (s := rf_target w s - 1) (g := decide (rf_dr (rf_draw w) % 100 < rf_says (rf_draw (rf_draw w)) 1 s)) (rf_I_draw (rf_I_draw hI)) (by rw [Ed2.S, Ed.S]; exact t1) (by rw [rf_kn_draw, rf_kn_draw]; exact t2)
      refine ⟨Ed.tr (Ed2.tr a1), ?_⟩
      rw [a2, e2]; exact u2
    · rw [if_neg h1]
      refine ⟨Ed, ?_⟩
      rw [e1]; exact u1
theorem rf_Es_goon (hI : rf_I w) : ∀ n, n ≤ rf_S w → rf_Es w (rf_goon w n) ∧ rf_goon w n 7 = w 7
  | 0, _ => ⟨rf_Es.rf, rfl⟩
  | n + 1, hn => by
    have hS : rf_S w < 11 := hI.1.2.1.2
    obtain ⟨a, b⟩ := rf_Es_goon hI n (by omega)
    rw [rf_goon]
    refine ⟨a.tr ⟨fun q hq => rf_upd_ne (by omega), fun t k ht hk => rf_upd_ne (by omega)⟩, by rw [rf_upd_ne (by omega)]; exact b⟩
theorem rf_Es_shs {b : Nat} (hI : rf_I w) (h7 : rf_n (w 7) b) (hb : b < 2147483000) : ∀ n, n ≤ rf_S w → rf_Es w (rf_shs w n) ∧ rf_n (rf_shs w n 7) (b + n)
  | 0, _ => ⟨rf_Es.rf, h7⟩
  | n + 1, hn => by
    have hS : rf_S w < 11 := hI.1.2.1.2
    obtain ⟨E, B⟩ := rf_Es_shs hI h7 hb n (by omega)
    obtain ⟨V, -⟩ := rf_shs_ok hI n (by omega)
    rw [rf_shs]
    obtain ⟨E2, B2⟩ := rf_shoot_es (s := n) V (by rw [E.S]; omega) B (by omega)
    exact ⟨E.tr E2, by rw [← Nat.add_assoc]; exact B2⟩
theorem rf_El_read {s : Nat} (hI : rf_I w) : rf_El w (rf_read w s).1 := (rf_rd2_el (s := s) hI (rf_S w) (Nat.le_refl _)).2.1
theorem rf_Es_rds (hI : rf_I w) : ∀ n, n ≤ rf_S w → rf_Es w (rf_rds w n) ∧ rf_rds w n 7 = w 7
  | 0, _ => ⟨rf_Es.rf, rfl⟩
  | n + 1, hn => by
    obtain ⟨E, B⟩ := rf_Es_rds hI n (by omega)
    obtain ⟨V, -⟩ := rf_rds_ok hI n (by omega)
    rw [rf_rds]
    split
    · have El := rf_El_read (s := n) V
      exact ⟨E.tr El.es, (El.1 7 (by omega)).trans B⟩
    · exact ⟨E, B⟩
theorem cl_says_21 {s : Nat} : 0 < cl_says w 2 s ↔ rf_says w 2 s = 1 := by
  rw [cl_says_2, rf_says]
  by_cases e : rf_nat (w 4) = 0
  · rw [if_pos e]; decide
  · rw [if_neg e, if_pos rfl]; omega
/-- an hour changes the scene only, and writes at most one row for each soldier -/
theorem rf_Es_hour {b : Nat} (hI : rf_I w) (h7 : rf_n (w 7) b) (hb : b < 2147483000) : rf_Es w (rf_hour w) ∧ rf_n (rf_hour w 7) (b + 10) := by
  have hS : rf_S w < 11 := hI.1.2.1.2
  obtain ⟨E1, B1⟩ := rf_Es_goon hI (rf_S w) (Nat.le_refl _)
  obtain ⟨V1, -⟩ := rf_goon_ok hI (rf_S w) (Nat.le_refl _)
  obtain ⟨E2, B2⟩ := rf_Es_shs V1 (by rw [B1]; exact h7) hb (rf_S w) (by rw [E1.S]; exact Nat.le_refl _)
  obtain ⟨V2, -⟩ := rf_shs_ok V1 (rf_S w) (by rw [E1.S]; exact Nat.le_refl _)
  obtain ⟨E3, B3⟩ := rf_Es_rds V2 (rf_S w) (by rw [E2.S, E1.S]; exact Nat.le_refl _)
  rw [rf_hour]
  refine ⟨(E1.tr (E2.tr E3)).tr ⟨fun q hq => rf_upd_ne (by omega), fun t k ht hk => rf_upd_ne (by omega)⟩, ?_⟩
  rw [rf_upd_ne (by omega), B3]
  have h9 : rf_nat (rf_shs (rf_goon w (rf_S w)) (rf_S w) 7) < b + rf_S w := B2.2
  exact ⟨B2.1, by omega⟩
end
end SPEC27
