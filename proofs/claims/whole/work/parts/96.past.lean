/-! THE PAST: the scenes ahead of the latest acts. Its row of scenes goes round: slot k + c is the k-th. -/
section PAST
section
variable {M : am_M} {D MC MS : Nat} {X : am_X} {V : am_V} {cs : Nat × Nat} {pc : Nat} {ls ls' : List (Nat × Value)} {st : List Value} {r : am_R} {h : am_H}
theorem am_astore_nZ {i : Fin 4} (C : am_C M D MC MS X) (hd : decode M.2.1 pc = .ok (.astore_n i, 1)) (hn : i.1 < M.2.2.1) (hs : am_set ls i.1 .null = ls') (k : am_G X V cs (pc + 1) ls' (st) r h) : am_G X V cs pc ls (.null :: st) r h := by
  obtain ⟨⟨p, l, e, R⟩, ⟨s, m, args, below, meth, c⟩, ⟨A, Z⟩, ⟨dC, dI, dA⟩, adK⟩ := X
  obtain ⟨⟨hx, hb, hml, hrt, hlk, hnm⟩, -⟩ := C
  intro H locs lsA hw hl
  exact lv_astore_nN hx hb hd rfl hl (by rw [hml]; exact hn) rfl (fun lsB hl2 => k H locs lsB hw (am_stored (v := .null) hs hl2))
theorem am_aload_nZ {i : Fin 4} (C : am_C M D MC MS X) (hd : decode M.2.1 pc = .ok (.aload_n i, 1)) (hg : am_get ls i.1 = some .null) (k : am_G X V cs (pc + 1) ls (.null :: st) r h) : am_G X V cs pc ls (st) r h := by
  obtain ⟨⟨p, l, e, R⟩, ⟨s, m, args, below, meth, c⟩, ⟨A, Z⟩, ⟨dC, dI, dA⟩, adK⟩ := X
  obtain ⟨⟨hx, hb, hml, hrt, hlk, hnm⟩, -⟩ := C
  intro H locs lsA hw hl
  exact lv_aload_nN hx hb hd rfl (am_load hl hg) (k H locs lsA hw hl)
theorem am_ifnonnullZ {off : Int} (C : am_C M D MC MS X) (hd : decode M.2.1 pc = .ok (.ifnonnull off, 3)) (k : am_G X V cs (pc + 3) ls (st) r h) : am_G X V cs pc ls (.null :: st) r h := by
  obtain ⟨⟨p, l, e, R⟩, ⟨s, m, args, below, meth, c⟩, ⟨A, Z⟩, ⟨dC, dI, dA⟩, adK⟩ := X
  obtain ⟨⟨hx, hb, hml, hrt, hlk, hnm⟩, -⟩ := C
  intro H locs lsA hw hl
  exact lv_ifnonnullN hx hb hd (k H locs lsA hw hl)
end
/-- the world as it was ahead of the k-th act -/
def rf_act (w a : rf_W) (k : Nat) : rf_W := rf_cp w a 0 (731 * k) 731
def cl_pa (r : am_R) (c : Nat) : Prop := c < 12 ∧ ∀ k, k < 12 → r 133 k = .ref (134 + 15 * ((k + c) % 12))
def cl_Pa (r : am_R) (h : am_H) (o w a : rf_W) : Prop := h 132 1 = o 7 ∧ ∃ c, cl_pa r c ∧ ∀ k, k < rf_rmd o → cl_Sc h (134 + 15 * ((k + c) % 12)) (rf_act w a k)
/-- the row moved on by k -/
def cl_rt (r : am_R) (k : Nat) : am_R := fun a b => if a = 133 ∧ b < k then r 133 (b + 1) else r a b
def cl_rot (r : am_R) : am_R := fun a b => if a = 133 ∧ b < 11 then r 133 (b + 1) else if a = 133 ∧ b = 11 then r 133 0 else r a b
theorem cl_rt_ne {r : am_R} {k a : Nat} (h : a ≠ 133) : cl_rt r k a = r a := by funext b; rw [cl_rt, if_neg (fun z => h z.1)]
theorem cl_rt_0 {r : am_R} : cl_rt r 0 = r := by funext a b; rw [cl_rt, if_neg (by omega)]
theorem cl_rt_s {r : am_R} {k q : Nat} (h : r 133 (k + 1) = .ref q) : am_up (cl_rt r k) 133 k (.ref q) = cl_rt r (k + 1) := by
  funext a b
  simp only [am_up, cl_rt]
  by_cases h1 : a = 133
  · subst h1
    by_cases h2 : b = k
    · subst h2; simp [h]
    · by_cases h3 : b < k
      · rw [if_neg (by omega), if_pos ⟨rfl, h3⟩, if_pos ⟨rfl, by omega⟩]
      · rw [if_neg (by omega), if_neg (by omega), if_neg (by omega)]
  · rw [if_neg (fun z => h1 z.1), if_neg (fun z => h1 z.1), if_neg (fun z => h1 z.1)]
theorem cl_rot_eq {r : am_R} {q : Nat} (h : r 133 0 = .ref q) : am_up (cl_rt r 11) 133 11 (.ref q) = cl_rot r := by
  funext a b
  simp only [am_up, cl_rt, cl_rot]
  by_cases h1 : a = 133
  · subst h1
    by_cases h2 : b = 11
    · subst h2; simp [h]
    · by_cases h3 : b < 11
      · rw [if_neg (by omega), if_pos ⟨rfl, h3⟩, if_pos ⟨rfl, by omega⟩]
      · rw [if_neg (by omega), if_neg (by omega), if_neg (by omega), if_neg (by omega)]
  · rw [if_neg (fun z => h1 z.1), if_neg (fun z => h1 z.1), if_neg (fun z => h1 z.1), if_neg (fun z => h1 z.1)]
theorem cl_rot_rs {r : am_R} (hR : am_rs r) : am_rs (cl_rot r) := by
  have key : ∀ q ∈ am_rfl, q.1 ≠ 133 := by decide +kernel
  intro q hq
  have h1 := key q hq
  show cl_rot r q.1 q.2.1 = _
  rw [cl_rot, if_neg (fun z => h1 z.1), if_neg (fun z => h1 z.1)]
  exact hR q hq
theorem cl_rot_pa {r : am_R} {c : Nat} (h : cl_pa r c) : cl_pa (cl_rot r) ((c + 1) % 12) := by
  refine ⟨Nat.mod_lt _ (by decide), fun k hk => ?_⟩
  rw [cl_rot]
  by_cases h1 : k < 11
  · rw [if_pos ⟨rfl, h1⟩, h.2 (k + 1) (by omega)]
    congr 3
    omega
  · rw [if_neg (fun z => h1 z.2), if_pos ⟨rfl, by omega⟩, h.2 0 (by omega)]
    congr 3
    have := h.1
    omega
theorem cl_slot {j : Nat} (hj : j < 12) : 134 + 15 * j < am_NN ∧ am_SH (134 + 15 * j) = (0, 5) := by
  have : ∀ j, j < 12 → 134 + 15 * j < am_NN ∧ am_SH (134 + 15 * j) = (0, 5) := by decide +kernel
  exact this j hj
section
variable {ad : Nat → Nat} {r : am_R} {h : am_H}
set_option maxRecDepth 100000 in
theorem c_X4_forgetOldest (hR : am_rs r) {c : Nat} (hP : cl_pa r c) : am_CM mX4_forgetOldest 0 0 0 [.ref 132] (am_VV ad) r h (am_po none (cl_rot r) (am_row h 132 (upd (h 132) 1 (nI 11)))) := by
  refine am_CM.of (by decide +kernel) (Nat.le_of_ble_eq_true rfl) (fun X C T => ?_)
  show am_G X (am_VV ad) (0, 0) 0 [(0, .ref 132)] [] r h
  have hc : c < 12 := hP.1
  have hRt : ∀ k, cl_rt r k 132 0 = .ref 133 := fun k => by rw [cl_rt_ne (by decide)]; exact rf_132_0 hR
  refine am_aload_n (pc := 0) C dX4_forgetOldest_0 rfl ?_
  refine am_getR (pc := 1) (j := 133) C dX4_forgetOldest_1 f4_11 bn_132 sh_132 (rf_132_0 hR) ?_
  refine am_iconstN (pc := 4) (k := 0) C dX4_forgetOldest_4 ?_
  refine am_aaload (pc := 5) (q := 134 + 15 * ((0 + c) % 12)) C dX4_forgetOldest_5 bn_133 sh_133 (vp_in_nI (by decide) (by decide)) (by rw [nI_clamp (by decide)]; exact hP.2 0 (by decide)) ?_
  refine am_astore_n (pc := 6) (ls' := [(0, .ref 132), (1, .ref (134 + 15 * ((0 + c) % 12)))]) C dX4_forgetOldest_6 (by decide) rfl ?_
  refine am_iconstN (pc := 7) (k := 1) C dX4_forgetOldest_7 ?_
  refine am_istore_n (pc := 8) (ls' := [(0, .ref 132), (1, .ref (134 + 15 * ((0 + c) % 12))), (2, .int (nI 1))]) C dX4_forgetOldest_8 (by decide) rfl ?_
  have L : ∀ (j k : Nat), k + j = 12 → 1 ≤ k → am_G X (am_VV ad) (0, 0) 9 [(0, .ref 132), (1, .ref (134 + 15 * ((0 + c) % 12))), (2, .int (nI k))] [] (cl_rt r (k - 1)) h := by
    intro j
    induction j with
    | zero =>
      intro k hk hk1
      obtain rfl : k = 12 := by omega
      refine am_iload_n (pc := 9) C dX4_forgetOldest_9 rfl ?_
      refine am_bipush (pc := 10) (v := nI 12) C dX4_forgetOldest_10 (by decide) ?_
      refine am_icmp_geN (pc := 12) (tgt := 35) C dX4_forgetOldest_12 (by decide) (by decide) (by decide) (fun _ => ?_) (fun q => absurd q (by decide))
      refine am_aload_n (pc := 35) C dX4_forgetOldest_35 rfl ?_
      refine am_getR (pc := 36) (j := 133) C dX4_forgetOldest_36 f4_11 bn_132 sh_132 (hRt _) ?_
      refine am_bipush (pc := 39) (v := nI 11) C dX4_forgetOldest_39 (by decide) ?_
      refine am_aload_n (pc := 41) C dX4_forgetOldest_41 rfl ?_
      refine am_aastore (pc := 42) C dX4_forgetOldest_42 bn_133 sh_133 (vp_in_nI (by decide) (by decide)) (cl_slot (Nat.mod_lt _ (by decide))).1 (cl_slot (Nat.mod_lt _ (by decide))).2 ?_
      rw [nI_clamp (by decide), cl_rot_eq (hP.2 0 (by decide))]
      refine am_aload_n (pc := 43) C dX4_forgetOldest_43 rfl ?_
      refine am_bipush (pc := 44) (v := nI 11) C dX4_forgetOldest_44 (by decide) ?_
      refine am_putI (pc := 46) C dX4_forgetOldest_46 f4_18 bn_132 sh_132 rfl rfl ?_
      exact am_vretv T dX4_forgetOldest_49 rfl (Nat.le_refl _) (Nat.le_refl _) rfl (am_up_rw _ _ _ _)
    | succ j ih =>
      intro k hk hk1
      obtain ⟨m, rfl⟩ : ∃ m, k = m + 1 := ⟨k - 1, by omega⟩
      refine am_iload_n (pc := 9) C dX4_forgetOldest_9 rfl ?_
      refine am_bipush (pc := 10) (v := nI 12) C dX4_forgetOldest_10 (by decide) ?_
      refine am_icmp_geN (pc := 12) (tgt := 35) C dX4_forgetOldest_12 (by decide) (by omega) (by decide) (fun q => absurd q (by omega)) (fun _ => ?_)
      refine am_aload_n (pc := 15) C dX4_forgetOldest_15 rfl ?_
      refine am_getR (pc := 16) (j := 133) C dX4_forgetOldest_16 f4_11 bn_132 sh_132 (hRt _) ?_
      refine am_iload_n (pc := 19) C dX4_forgetOldest_19 rfl ?_
      refine am_iconstN (pc := 20) (k := 1) C dX4_forgetOldest_20 ?_
      refine am_isubN (pc := 21) C dX4_forgetOldest_21 (by omega) ?_
      refine am_aload_n (pc := 22) C dX4_forgetOldest_22 rfl ?_
      refine am_getR (pc := 23) (j := 133) C dX4_forgetOldest_23 f4_11 bn_132 sh_132 (hRt _) ?_
      refine am_iload_n (pc := 26) C dX4_forgetOldest_26 rfl ?_
      refine am_aaload (pc := 27) (q := 134 + 15 * ((m + 1 + c) % 12)) C dX4_forgetOldest_27 bn_133 sh_133 (vp_in_nI (by omega) (by decide)) (by rw [nI_clamp (by omega), cl_rt, if_neg (by omega)]; exact hP.2 (m + 1) (by omega)) ?_
      refine am_aastore (pc := 28) C dX4_forgetOldest_28 bn_133 sh_133 (vp_in_nI (by omega) (by decide)) (cl_slot (Nat.mod_lt _ (by decide))).1 (cl_slot (Nat.mod_lt _ (by decide))).2 ?_
      rw [nI_clamp (by omega), show m + 1 - 1 = m by omega, cl_rt_s (hP.2 (m + 1) (by omega))]
      refine am_iincN (pc := 29) (ls' := [(0, .ref 132), (1, .ref (134 + 15 * ((0 + c) % 12))), (2, .int (nI (m + 1 + 1)))]) C dX4_forgetOldest_29 rfl (am_up1 _) (by decide) rfl ?_
      refine am_goto (pc := 32) (tgt := 9) C dX4_forgetOldest_32 (by decide) ?_
      exact ih (m + 1 + 1) (by omega) (by omega)
  have h1 := L 11 1 rfl (Nat.le_refl 1)
  rw [show (1 : Nat) - 1 = 0 from rfl, cl_rt_0] at h1
  exact h1
theorem c_X5_copyTo (hR : am_rs r) {j : Nat} (hj : j < 12) (w : rf_W) (hV : rf_I w) (hSc : cl_Sc h 25 w) : am_CM mX5_copyFrom 3 0 0 [.ref (134 + 15 * j), .ref 25] (am_VV ad) r h (am_pr none r (fun c9 => cl_Sc c9 (134 + 15 * j) w ∧ cl_fr h c9 (134 + 15 * j) 15)) := by
  rcases (show j = 0 ∨ j = 1 ∨ j = 2 ∨ j = 3 ∨ j = 4 ∨ j = 5 ∨ j = 6 ∨ j = 7 ∨ j = 8 ∨ j = 9 ∨ j = 10 ∨ j = 11 by omega) with rfl | rfl | rfl | rfl | rfl | rfl | rfl | rfl | rfl | rfl | rfl | rfl
  · exact c_X5_copyFrom_d_s0 hR w hV hSc
  · exact c_X5_copyFrom_d_s1 hR w hV hSc
  · exact c_X5_copyFrom_d_s2 hR w hV hSc
  · exact c_X5_copyFrom_d_s3 hR w hV hSc
  · exact c_X5_copyFrom_d_s4 hR w hV hSc
  · exact c_X5_copyFrom_d_s5 hR w hV hSc
  · exact c_X5_copyFrom_d_s6 hR w hV hSc
  · exact c_X5_copyFrom_d_s7 hR w hV hSc
  · exact c_X5_copyFrom_d_s8 hR w hV hSc
  · exact c_X5_copyFrom_d_s9 hR w hV hSc
  · exact c_X5_copyFrom_d_s10 hR w hV hSc
  · exact c_X5_copyFrom_d_s11 hR w hV hSc
theorem c_X5_copyOf (hR : am_rs r) {j : Nat} (hj : j < 12) (w : rf_W) (hV : rf_I w) (hSc : cl_Sc h (134 + 15 * j) w) : am_CM mX5_copyFrom 3 0 0 [.ref 25, .ref (134 + 15 * j)] (am_VV ad) r h (am_pr none r (fun c9 => cl_Sc c9 25 w ∧ cl_fr h c9 25 15)) := by
  rcases (show j = 0 ∨ j = 1 ∨ j = 2 ∨ j = 3 ∨ j = 4 ∨ j = 5 ∨ j = 6 ∨ j = 7 ∨ j = 8 ∨ j = 9 ∨ j = 10 ∨ j = 11 by omega) with rfl | rfl | rfl | rfl | rfl | rfl | rfl | rfl | rfl | rfl | rfl | rfl
  · exact c_X5_copyFrom_d_t0 hR w hV hSc
  · exact c_X5_copyFrom_d_t1 hR w hV hSc
  · exact c_X5_copyFrom_d_t2 hR w hV hSc
  · exact c_X5_copyFrom_d_t3 hR w hV hSc
  · exact c_X5_copyFrom_d_t4 hR w hV hSc
  · exact c_X5_copyFrom_d_t5 hR w hV hSc
  · exact c_X5_copyFrom_d_t6 hR w hV hSc
  · exact c_X5_copyFrom_d_t7 hR w hV hSc
  · exact c_X5_copyFrom_d_t8 hR w hV hSc
  · exact c_X5_copyFrom_d_t9 hR w hV hSc
  · exact c_X5_copyFrom_d_t10 hR w hV hSc
  · exact c_X5_copyFrom_d_t11 hR w hV hSc
end
/-- outside the past all is as it was -/
def cl_f2 (h h' : am_H) : Prop := ∀ i, (i < 132 ∨ 314 ≤ i) → h' i = h i
theorem rf_act_new {w a b : rf_W} {n : Nat} (hb : ∀ x, x < 731 → b (731 * n + x) = w x) : rf_act w b n = w := by
  funext x
  rw [rf_act, rf_cp]
  split
  · rename_i hx
    rw [show x - 0 = x by omega]
    exact hb x (by omega)
  · rfl
theorem rf_act_congr {w a b : rf_W} {n k : Nat} (hb : ∀ x, x < 731 → b (731 * n + x) = a (731 * k + x)) : rf_act w b n = rf_act w a k := by
  funext x
  rw [rf_act, rf_act, rf_cp, rf_cp]
  split
  · rename_i hx
    rw [show x - 0 = x by omega]
    exact hb x (by omega)
  · rfl
section
variable {ad : Nat → Nat} {r : am_R} {h : am_H}
set_option maxRecDepth 100000 in
theorem c_X4_keep (hR : am_rs r) (w o a : rf_W) (hV : rf_I w) (hSc : cl_Sc h 25 w) (hn : rf_n (o 7) 13) (hPa : cl_Pa r h o w a) : am_CM mX4_keep 4 0 0 [.ref 132, .ref 25] (am_VV ad) r h (fun v r' h' => v = none ∧ am_rs r' ∧ cl_Pa r' h' (rf_remO o) w (rf_remA o w a) ∧ cl_f2 h h') := by
  refine am_CM.of (by decide +kernel) (Nat.le_of_ble_eq_true rfl) (fun X C T => ?_)
  show am_G X (am_VV ad) (0, 0) 0 [(0, .ref 132), (1, .ref 25)] [] r h
  obtain ⟨hsz, c, hP, hA⟩ := hPa
  have hc : c < 12 := hP.1
  have hn2 : rf_rmd o < 13 := hn.2
  have hsz2 : h 132 1 = nI (rf_rmd o) := hsz.trans hn.1
  have K : ∀ (r1 : am_R) (h1 : am_H) (c1 n1 : Nat), am_rs r1 → cl_pa r1 c1 → n1 < 12 → h1 132 1 = nI n1 → cl_Sc h1 25 w → (∀ G : am_H, cl_Sc G (134 + 15 * ((n1 + c1) % 12)) w → cl_fr h1 G (134 + 15 * ((n1 + c1) % 12)) 15 → cl_Pa r1 (am_row G 132 (upd (G 132) 1 (nI (n1 + 1)))) (rf_remO o) w (rf_remA o w a) ∧ cl_f2 h (am_row G 132 (upd (G 132) 1 (nI (n1 + 1))))) →
      am_G X (am_VV ad) (0, 0) 13 [(0, .ref 132), (1, .ref 25)] [] r1 h1 := by
    intro r1 h1 c1 n1 hR1 hP1 hn1 hs1 hS1 hend
    have hm : (n1 + c1) % 12 < 12 := Nat.mod_lt _ (by decide)
    refine am_aload_n (pc := 13) C dX4_keep_13 rfl ?_
    refine am_getI (pc := 14) C dX4_keep_14 f4_18 bn_132 sh_132 ?_
    refine am_top (show h1 132 1 = nI n1 from hs1) ?_
    refine am_if_ltN (pc := 17) (tgt := 41) C dX4_keep_17 (by decide) (by omega) ?_
    refine am_aload_n (pc := 20) C dX4_keep_20 rfl ?_
    refine am_getI (pc := 21) C dX4_keep_21 f4_18 bn_132 sh_132 ?_
    refine am_top (show h1 132 1 = nI n1 from hs1) ?_
    refine am_bipush (pc := 24) (v := nI 12) C dX4_keep_24 (by decide) ?_
    refine am_icmp_geN (pc := 26) (tgt := 41) C dX4_keep_26 (by decide) (by omega) (by decide) (fun q => absurd q (by omega)) (fun _ => ?_)
    refine am_aload_n (pc := 29) C dX4_keep_29 rfl ?_
    refine am_getR (pc := 30) (j := 133) C dX4_keep_30 f4_11 bn_132 sh_132 (rf_132_0 hR1) ?_
    refine am_aload_n (pc := 33) C dX4_keep_33 rfl ?_
    refine am_getI (pc := 34) C dX4_keep_34 f4_18 bn_132 sh_132 ?_
    refine am_top (show h1 132 1 = nI n1 from hs1) ?_
    refine am_aaload (pc := 37) (q := 134 + 15 * ((n1 + c1) % 12)) C dX4_keep_37 bn_133 sh_133 (vp_in_nI (by omega) (by decide)) (by rw [nI_clamp (by omega)]; exact hP1.2 n1 hn1) ?_
    refine am_goto (pc := 38) (tgt := 42) C dX4_keep_38 (by decide) ?_
    refine am_astore_n (pc := 42) (ls' := [(0, .ref 132), (1, .ref 25), (2, .ref (134 + 15 * ((n1 + c1) % 12)))]) C dX4_keep_42 (by decide) rfl ?_
    refine am_aload_n (pc := 43) C dX4_keep_43 rfl ?_
    refine am_ifnull (pc := 44) C dX4_keep_44 ?_
    refine am_aload_n (pc := 47) C dX4_keep_47 rfl ?_
    refine am_aload_n (pc := 48) C dX4_keep_48 rfl ?_
    refine am_callVvr (Y := mX5_copyFrom) (pc := 49) (st := []) (As := [.ref 25]) (PP := fun c9 => cl_Sc c9 (134 + 15 * ((n1 + c1) % 12)) w ∧ cl_fr h1 c9 (134 + 15 * ((n1 + c1) % 12)) 15) C dX4_keep_49 k4_25 v_X5_copyFrom rfl rfl (cl_slot hm).1 (cl_slot hm).2 ⟨by decide, rfl⟩ (by decide) (Nat.zero_le _) (Nat.zero_le _) (Nat.le_of_ble_eq_true rfl) (c_X5_copyTo hR1 hm w hV hS1) (fun G hG => ?_)
    have hG132 : G 132 1 = nI n1 := by rw [hG.2 132 (by omega)]; exact hs1
    refine am_aload_n (pc := 52) C dX4_keep_52 rfl ?_
    refine am_dup (pc := 53) C dX4_keep_53 rfl ?_
    refine am_getI (pc := 54) C dX4_keep_54 f4_18 bn_132 sh_132 ?_
    refine am_top (show G 132 1 = nI n1 from hG132) ?_
    refine am_iconstN (pc := 57) (k := 1) C dX4_keep_57 ?_
    refine am_iaddN (pc := 58) C dX4_keep_58 ?_
    refine am_putI (pc := 59) C dX4_keep_59 f4_18 bn_132 sh_132 rfl rfl ?_
    refine am_hp (show am_up G 132 1 (nI (n1 + 1)) = am_row G 132 (upd (G 132) 1 (nI (n1 + 1))) from am_up_rw _ _ _ _) ?_
    exact am_vret T dX4_keep_62 rfl (Nat.le_refl _) (Nat.le_refl _) ⟨rfl, hR1, (hend G hG.1 hG.2).1, (hend G hG.1 hG.2).2⟩
  refine am_aload_n (pc := 0) C dX4_keep_0 rfl ?_
  refine am_getI (pc := 1) C dX4_keep_1 f4_18 bn_132 sh_132 ?_
  refine am_top (show h 132 1 = nI (rf_rmd o) from hsz2) ?_
  refine am_bipush (pc := 4) (v := nI 12) C dX4_keep_4 (by decide) ?_
  refine am_icmp_ltN (pc := 6) (tgt := 13) C dX4_keep_6 (by decide) (by omega) (by decide) (fun q => ?_) (fun q => ?_)
  · have hne : ¬ rf_rmd o = 12 := by omega
    refine K r h c (rf_rmd o) hR hP q hsz2 hSc (fun G g1 g2 => ⟨⟨?_, c, hP, fun k hk => ?_⟩, fun i hi => ?_⟩)
    · rw [am_row_at, rf_upd_eq, rf_remO, if_neg hne, rf_upd_eq]
    · rw [rf_remO, if_neg hne, rf_rmd, rf_upd_eq, rf_nat_nI (by omega)] at hk
      have hmk : (k + c) % 12 < 12 := Nat.mod_lt _ (by decide)
      have hmn : (rf_rmd o + c) % 12 < 12 := Nat.mod_lt _ (by decide)
      by_cases e : k = rf_rmd o
      · subst e
        rw [rf_remA, if_neg hne, rf_act_new (a := a) (fun x hx => by rw [rf_cp_in (by omega) (by omega)]; congr 1; omega)]
        exact cl_Sc_eq (fun i a b => am_row_ne _ _ _ (by omega)) g1
      · rw [rf_remA, if_neg hne, rf_act_congr (a := a) (k := k) (fun x hx => rf_cp_out (by omega))]
        have hdj : (k + c) % 12 ≠ (rf_rmd o + c) % 12 := by omega
        exact cl_Sc_eq (fun i a b => (am_row_ne _ _ _ (by omega)).trans (g2 i (by omega))) (hA k (by omega))
    · have hmn : (rf_rmd o + c) % 12 < 12 := Nat.mod_lt _ (by decide)
      exact (am_row_ne _ _ _ (by omega)).trans (g2 i (by omega))
  · have h12 : rf_rmd o = 12 := by omega
    refine am_aload_n (pc := 9) C dX4_keep_9 rfl ?_
    refine am_callVv (Y := mX4_forgetOldest) (pc := 10) (st := []) (As := []) (r2 := cl_rot r) (h2 := am_row h 132 (upd (h 132) 1 (nI 11))) C dX4_keep_10 k4_22 v_X4_forgetOldest rfl rfl bn_132 sh_132 ⟨by decide, rfl⟩ (by decide) (Nat.zero_le _) (Nat.zero_le _) (Nat.le_of_ble_eq_true rfl) (c_X4_forgetOldest hR hP) ?_
    refine K (cl_rot r) _ ((c + 1) % 12) 11 (cl_rot_rs hR) (cl_rot_pa hP) (by decide) (by rw [am_row_at]; exact rf_upd_eq) (cl_Sc_eq (fun i a b => am_row_ne _ _ _ (by omega)) hSc) (fun G g1 g2 => ⟨⟨?_, (c + 1) % 12, cl_rot_pa hP, fun k hk => ?_⟩, fun i hi => ?_⟩)
    · rw [am_row_at, rf_upd_eq, rf_remO, if_pos h12, hn.1]
      show nI (11 + 1) = nI (rf_rmd o)
      rw [h12]
    · rw [rf_remO, if_pos h12, h12] at hk
      by_cases e : k = 11
      · subst e
        rw [rf_remA, if_pos h12, rf_act_new (a := a) (fun x hx => by rw [rf_cp_in (by omega) (by omega)]; congr 1; omega)]
        exact cl_Sc_eq (fun i a b => am_row_ne _ _ _ (by omega)) g1
      · rw [rf_remA, if_pos h12, rf_act_congr (a := a) (k := k + 1) (fun x hx => by rw [rf_cp_out (by omega), rf_cp_in (by omega) (by omega)]; congr 1; omega)]
        have h9 := hA (k + 1) (by omega)
        rw [show (k + 1 + c) % 12 = (k + (c + 1) % 12) % 12 by omega] at h9
        have hdj : (k + (c + 1) % 12) % 12 ≠ (11 + (c + 1) % 12) % 12 := by omega
        have hmk : (k + (c + 1) % 12) % 12 < 12 := Nat.mod_lt _ (by decide)
        have hmn : (11 + (c + 1) % 12) % 12 < 12 := Nat.mod_lt _ (by decide)
        exact cl_Sc_eq (fun i a b => (am_row_ne _ _ _ (by omega)).trans ((g2 i (by omega)).trans (am_row_ne _ _ _ (by omega)))) h9
    · have hmn : (11 + (c + 1) % 12) % 12 < 12 := Nat.mod_lt _ (by decide)
      exact (am_row_ne _ _ _ (by omega)).trans ((g2 i (by omega)).trans (am_row_ne _ _ _ (by omega)))
set_option maxRecDepth 100000 in
theorem c_X4_giveBack (hR : am_rs r) (w o a : rf_W) (hV : 0 < rf_rmd o → rf_I (rf_act w a (rf_rmd o - 1))) (hn : rf_n (o 7) 13) (hPa : cl_Pa r h o w a) : am_CM mX4_giveBack 4 0 0 [.ref 132, .ref 25] (am_VV ad) r h (fun v r' h' => v = some (.int (am_b (decide (0 < rf_rmd o)))) ∧ r' = r ∧ (rf_rmd o = 0 → h' = h) ∧ (0 < rf_rmd o → cl_Sc h' 25 (rf_act w a (rf_rmd o - 1)) ∧ h' 132 1 = nI (rf_rmd o - 1) ∧ ∀ i, (i < 25 ∨ 40 ≤ i) ∧ i ≠ 132 → h' i = h i)) := by
  refine am_CM.of (by decide +kernel) (Nat.le_of_ble_eq_true rfl) (fun X C T => ?_)
  show am_G X (am_VV ad) (0, 0) 0 [(0, .ref 132), (1, .ref 25)] [] r h
  obtain ⟨hsz, c, hP, hA⟩ := hPa
  have hc : c < 12 := hP.1
  have hn2 : rf_rmd o < 13 := hn.2
  have hsz2 : h 132 1 = nI (rf_rmd o) := hsz.trans hn.1
  refine am_aload_n (pc := 0) C dX4_giveBack_0 rfl ?_
  refine am_getI (pc := 1) C dX4_giveBack_1 f4_18 bn_132 sh_132 ?_
  refine am_top (show h 132 1 = nI (rf_rmd o) from hsz2) ?_
  refine am_if_leN (pc := 4) (tgt := 30) C dX4_giveBack_4 (by decide) (by omega) (fun q => ?_) (fun q => ?_)
  · refine am_null (pc := 30) C dX4_giveBack_30 ?_
    refine am_astore_nZ (pc := 31) (ls' := [(0, .ref 132), (1, .ref 25), (2, .null)]) C dX4_giveBack_31 (by decide) rfl ?_
    refine am_aload_nZ (pc := 32) C dX4_giveBack_32 rfl ?_
    refine am_ifnonnullZ (pc := 33) C dX4_giveBack_33 ?_
    refine am_iconstN (pc := 36) (k := 0) C dX4_giveBack_36 ?_
    refine am_top (show nI 0 = am_b false from rfl) ?_
    exact am_iret T dX4_giveBack_37 rfl (am_b_nar false) (Nat.le_refl _) (Nat.le_refl _) ⟨by rw [decide_eq_false (by omega)], rfl, fun _ => rfl, fun z => absurd z (by omega)⟩
  · have hm : (rf_rmd o - 1 + c) % 12 < 12 := Nat.mod_lt _ (by decide)
    refine am_aload_n (pc := 7) C dX4_giveBack_7 rfl ?_
    refine am_getI (pc := 8) C dX4_giveBack_8 f4_18 bn_132 sh_132 ?_
    refine am_top (show h 132 1 = nI (rf_rmd o) from hsz2) ?_
    refine am_bipush (pc := 11) (v := nI 12) C dX4_giveBack_11 (by decide) ?_
    refine am_icmp_gtN (pc := 13) (tgt := 30) C dX4_giveBack_13 (by decide) (by omega) (by decide) (fun q => absurd q (by omega)) (fun _ => ?_)
    refine am_aload_n (pc := 16) C dX4_giveBack_16 rfl ?_
    refine am_getR (pc := 17) (j := 133) C dX4_giveBack_17 f4_11 bn_132 sh_132 (rf_132_0 hR) ?_
    refine am_aload_n (pc := 20) C dX4_giveBack_20 rfl ?_
    refine am_getI (pc := 21) C dX4_giveBack_21 f4_18 bn_132 sh_132 ?_
    refine am_top (show h 132 1 = nI (rf_rmd o) from hsz2) ?_
    refine am_iconstN (pc := 24) (k := 1) C dX4_giveBack_24 ?_
    refine am_isubN (pc := 25) C dX4_giveBack_25 (by omega) ?_
    refine am_aaload (pc := 26) (q := 134 + 15 * ((rf_rmd o - 1 + c) % 12)) C dX4_giveBack_26 bn_133 sh_133 (vp_in_nI (by omega) (by decide)) (by rw [nI_clamp (by omega)]; exact hP.2 _ (by omega)) ?_
    refine am_goto (pc := 27) (tgt := 31) C dX4_giveBack_27 (by decide) ?_
    refine am_astore_n (pc := 31) (ls' := [(0, .ref 132), (1, .ref 25), (2, .ref (134 + 15 * ((rf_rmd o - 1 + c) % 12)))]) C dX4_giveBack_31 (by decide) rfl ?_
    refine am_aload_n (pc := 32) C dX4_giveBack_32 rfl ?_
    refine am_ifnonnull (pc := 33) (tgt := 38) C dX4_giveBack_33 (by decide) ?_
    refine am_aload_n (pc := 38) C dX4_giveBack_38 rfl ?_
    refine am_aload_n (pc := 39) C dX4_giveBack_39 rfl ?_
    refine am_callVvr (Y := mX5_copyFrom) (pc := 40) (st := []) (As := [.ref (134 + 15 * ((rf_rmd o - 1 + c) % 12))]) (PP := fun c9 => cl_Sc c9 25 (rf_act w a (rf_rmd o - 1)) ∧ cl_fr h c9 25 15) C dX4_giveBack_40 k4_25 v_X5_copyFrom rfl rfl bn_25 sh_25 ⟨by decide, rfl⟩ (by decide) (Nat.zero_le _) (Nat.zero_le _) (Nat.le_of_ble_eq_true rfl) (c_X5_copyOf hR hm _ (hV q) (hA _ (by omega))) (fun G hG => ?_)
    have hG132 : G 132 1 = nI (rf_rmd o) := by rw [hG.2 132 (by omega)]; exact hsz2
    refine am_aload_n (pc := 43) C dX4_giveBack_43 rfl ?_
    refine am_dup (pc := 44) C dX4_giveBack_44 rfl ?_
    refine am_getI (pc := 45) C dX4_giveBack_45 f4_18 bn_132 sh_132 ?_
    refine am_top (show G 132 1 = nI (rf_rmd o) from hG132) ?_
    refine am_iconstN (pc := 48) (k := 1) C dX4_giveBack_48 ?_
    refine am_isubN (pc := 49) C dX4_giveBack_49 (by omega) ?_
    refine am_putI (pc := 50) C dX4_giveBack_50 f4_18 bn_132 sh_132 rfl rfl ?_
    refine am_hp (show am_up G 132 1 (nI (rf_rmd o - 1)) = am_row G 132 (upd (G 132) 1 (nI (rf_rmd o - 1))) from am_up_rw _ _ _ _) ?_
    refine am_iconstN (pc := 53) (k := 1) C dX4_giveBack_53 ?_
    refine am_top (show nI 1 = am_b true from rfl) ?_
    exact am_iret T dX4_giveBack_54 rfl (am_b_nar true) (Nat.le_refl _) (Nat.le_refl _) ⟨by rw [decide_eq_true q], rfl, fun z => absurd z (by omega), fun _ => ⟨cl_Sc_eq (fun i a b => am_row_ne _ _ _ (by omega)) hG.1, by rw [am_row_at]; exact rf_upd_eq, fun i hi => (am_row_ne _ _ _ hi.2).trans (hG.2 i (by omega))⟩⟩
end
end PAST
