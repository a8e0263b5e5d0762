/-! THE LAW: what its cases stand on -/
section LP2
abbrev lp_l5 (i : Nat) (v : Int32) : List (Nat × Value) := [(0, .ref (am_SB + 50)), (1, .ref 0), (2, .ref 322), (3, .ref 335), (4, .int (nI (6 * i))), (5, .int v)]
abbrev lp_l6 (i : Nat) (v u : Int32) : List (Nat × Value) := [(0, .ref (am_SB + 50)), (1, .ref 0), (2, .ref 322), (3, .ref 335), (4, .int (nI (6 * i))), (5, .int v), (6, .int u)]
theorem lp_cbl {b : Bool} {k n : Nat} (hk : k < 100) (hn : n < 100) : rf_cb b k n < 100 := by
  cases b with
  | false => exact hn
  | true => exact hk
theorem lp_cb_law {t o w : rf_W} : rf_cL t o w < 100 := lp_cbl (by decide) (by decide)
theorem lp_cb_war {t o w : rf_W} : rf_cW t o w < 100 := lp_cbl (by decide) (lp_cbl (by decide) (by decide))
theorem am_XM.mono {Y : am_M} {d mc ms : Nat} {as : List Value} {V : am_V} {r : am_R} {h : am_H} {Q Q' : Option Value → am_R → am_H → Prop} {QX QX' : String → am_R → am_H → Prop} (hX : am_XM Y d mc ms as V r h Q QX) (h1 : ∀ v r' h', Q v r' h' → Q' v r' h') (h2 : ∀ E r' h', QX E r' h' → QX' E r' h') : am_XM Y d mc ms as V r h Q' QX' := by
  intro l hl dC dI dA adK sz p e ha hc hk s m args below hf hap hP hK
  obtain ⟨n, o, a1, a2, a3, hq⟩ := hX l hl dC dI dA adK sz p e ha hc hk s m args below hf hap hP hK
  refine ⟨n, o, a1, a2, a3, ?_⟩
  rcases hq with ⟨⟨⟨v, r', h', e1, e2, e3⟩, f⟩, g⟩ | ⟨q, e1, E, ce, L, ⟨r', h', b1, b2, b3⟩, b4⟩
  · exact Or.inl ⟨⟨⟨v, r', h', e1, h1 _ _ _ e2, e3⟩, f⟩, g⟩
  · exact Or.inr ⟨q, e1, E, ce, L, ⟨r', h', h2 _ _ _ b1, b2, b3⟩, b4⟩
variable {r r9 : am_R} {h h9 c : am_H} {i cc : Nat} {w' o w a t : rf_W}
theorem lp_hP_k : ∀ (r' : am_R) (h' : am_H) (g : Nat → Int32), (r' = r ∧ cl_k h h') → (r' = r ∧ cl_k h (am_row h' 335 g)) := fun _ _ _ p => ⟨p.1, fun i hi => (am_row_ne _ _ _ hi.2.2.2.2).trans (p.2 i hi)⟩
theorem lp_hP_matches : ∀ (r' : am_R) (h' : am_H) (g : Nat → Int32), (r' = r ∧ h' 1 1 = nI 0 ∧ cl_k1 h h') → (r' = r ∧ (am_row h' 335 g) 1 1 = nI 0 ∧ cl_k1 h (am_row h' 335 g)) := fun _ h' g p => ⟨p.1, by rw [am_row_ne _ _ _ (by decide)]; exact p.2.1, fun i hi => (am_row_ne _ _ _ hi.2.2.2.2.2).trans (p.2.2 i hi)⟩
theorem lp_hP_act {n : Nat} : ∀ (r' : am_R) (h' : am_H) (g : Nat → Int32), cl_act r h n o w w' a r' h' → cl_act r h n o w w' a r' (am_row h' 335 g) := fun _ h' g p =>
  ⟨fun z => ⟨(p.1 z).1, cl_Sc_eq (fun i a b => am_row_ne _ _ _ (by omega)) (p.1 z).2.1, cl_Pa_eq (fun i a b => am_row_ne _ _ _ (by omega)) (p.1 z).2.2.1, fun i hi => (am_row_ne _ _ _ hi.2.2.2).trans ((p.1 z).2.2.2 i hi)⟩, fun z => ⟨(p.2 z).1, fun i hi => (am_row_ne _ _ _ hi.2.2.2.2).trans ((p.2 z).2 i hi)⟩⟩
theorem lp_hP_war : ∀ (r' : am_R) (h' : am_H) (g : Nat → Int32), (r' = r ∧ cl_wr h (am_row h' 335 (h 335)) t o w) → (r' = r ∧ cl_wr h (am_row (am_row h' 335 g) 335 (h 335)) t o w) := fun _ h' g p => ⟨p.1, by rw [am_row_s0]; exact p.2⟩
theorem lp_hP_law : ∀ (r' : am_R) (h' : am_H) (g : Nat → Int32), (r' = r ∧ cl_lw h (am_row h' 335 (h 335)) t o w) → (r' = r ∧ cl_lw h (am_row (am_row h' 335 g) 335 (h 335)) t o w) := fun _ h' g p => ⟨p.1, by rw [am_row_s0]; exact p.2⟩
theorem lp_hi_law (P : cl_lw h h9 t o w) : ∀ j, 322 ≤ j → h9 j = h j := fun j hj => by
  obtain ⟨-, -, p1, p2⟩ := P
  by_cases z : (rf_all t false o w).1 = 0
  · exact (p1 z).2 j (by omega)
  · exact (p2 z).2.2.2 j (by omega)
theorem lp_hi_war (P : cl_wr h h9 t o w) : ∀ j, 322 ≤ j → h9 j = h j := fun j hj => by
  obtain ⟨-, -, p1, p2, p3⟩ := P
  by_cases z : (rf_all t true o w).1 = 0
  · exact (p1 z).2 j (by omega)
  · by_cases z2 : (rf_all t true o w).2.2 3 = nI 12
    · exact (p2 z z2).2 j (by omega)
    · exact (p3 z z2).2.2.2.2.2 j (by omega)
theorem lp_back335 (e : ∀ j, 322 ≤ j → h9 j = h j) : am_row h9 335 (h 335) = h9 := by rw [← e 335 (by decide)]; exact am_row_id _ _
theorem lp_x_war {Y : am_M} {d mc ms n : Nat} {as : List Value} {V : am_V} {r0 : am_R} {h0 : am_H} {x : Int32} {N : List String} (hX : am_XM Y d mc ms as V r0 h0 (ex_ret n x (fun r9 h9 => r9 = r ∧ cl_wr h h9 t o w)) (ex_thr N n (fun r9 h9 => r9 = r ∧ cl_wr h h9 t o w))) : am_XM Y d mc ms as V r0 h0 (ex_ret n x (fun r9 h9 => r9 = r ∧ cl_wr h (am_row h9 335 (h 335)) t o w)) (ex_thr N n (fun r9 h9 => r9 = r ∧ cl_wr h (am_row h9 335 (h 335)) t o w)) :=
  hX.mono (fun v r' h' q => ⟨q.1, q.2.1, q.2.2.1, by rw [lp_back335 (lp_hi_war q.2.2.2)]; exact q.2.2.2⟩) (fun E r' h' q => by
    obtain ⟨k, q1, q2, q3, q4⟩ := q
    exact ⟨k, q1, q2, q3, by rw [lp_back335 (lp_hi_war q4)]; exact q4⟩)
theorem lp_x_law {Y : am_M} {d mc ms n : Nat} {as : List Value} {V : am_V} {r0 : am_R} {h0 : am_H} {x : Int32} {N : List String} (hX : am_XM Y d mc ms as V r0 h0 (ex_ret n x (fun r9 h9 => r9 = r ∧ cl_lw h h9 t o w)) (ex_thr N n (fun r9 h9 => r9 = r ∧ cl_lw h h9 t o w))) : am_XM Y d mc ms as V r0 h0 (ex_ret n x (fun r9 h9 => r9 = r ∧ cl_lw h (am_row h9 335 (h 335)) t o w)) (ex_thr N n (fun r9 h9 => r9 = r ∧ cl_lw h (am_row h9 335 (h 335)) t o w)) :=
  hX.mono (fun v r' h' q => ⟨q.1, q.2.1, q.2.2.1, by rw [lp_back335 (lp_hi_law q.2.2.2)]; exact q.2.2.2⟩) (fun E r' h' q => by
    obtain ⟨k, q1, q2, q3, q4⟩ := q
    exact ⟨k, q1, q2, q3, by rw [lp_back335 (lp_hi_law q4)]; exact q4⟩)
theorem lp_hi_act {n : Nat} (P : cl_act r h n o w w' a r9 h9) : ∀ j, 322 ≤ j → j ≠ 335 → h9 j = h j := fun j hj h5 => by
  by_cases z : n = 0
  · exact (P.1 z).2.2.2 j ⟨by omega, by omega, by omega, h5⟩
  · exact (P.2 z).2 j ⟨by omega, by omega, by omega, by omega, h5⟩
theorem lp_rs_act {n : Nat} (hR : am_rs r) (P : cl_act r h n o w w' a r9 h9) : am_rs r9 := by
  by_cases z : n = 0
  · exact (P.1 z).1
  · rw [(P.2 z).1]; exact hR
theorem lp_t_act : (rf_gw cc (rf_remO (rf_oc o 0)) (rf_oc o cc)) 0 = nI cc := by
  by_cases z : cc = 0
  · rw [rf_gw, if_pos z, rf_remO_k (by decide), z]
    exact rf_upd_eq
  · rw [rf_gw, if_neg z]
    exact rf_upd_eq
theorem lp_gw_same : rf_gw cc a a = a := by
  unfold rf_gw
  split <;> rfl
theorem lp_ga0 {n : Nat} {x : Int32} (e : n = 0) : x = rf_ga n x := by rw [rf_ga, if_pos e]
theorem lp_pure (R : cl_R r h i) (K : cl_k h h9) (F : ∀ j, j ≠ 322 → j < 329 → j ≠ 326 → c j = h9 j) (e : c 322 = rf_oc (h 322) cc) : cl_R r c (i + 1) :=
  cl_R.k R (fun j a1 a2 a3 a4 a5 a6 a7 a8 => (F j a6 a5 a8).trans (K j ⟨a1, a2, a3, a4, by omega⟩)) (fun k hk => by rw [e]; exact rf_upd_ne hk)
theorem lp_o0_0 : rf_o0 o 0 = nI 0 := by rw [rf_o0, rf_upd_ne (by decide), rf_uses, rf_upd_ne (by decide), rf_upd_ne (by decide), rf_upd_ne (by decide), rf_upd_eq]
theorem lp_all0 {b : Bool} (hOb : rf_Ob o) : (rf_all t b o w).2.1 0 = nI 0 := ((rf_ko_all (t := t) (w := w) (b := b) hOb).1 0 (by decide) (by decide) (by decide) (by decide)).trans lp_o0_0
theorem lp_t_law (hOb : rf_Ob o) : (rf_law t o w).2.1 0 = nI (rf_cL t o w) := by
  by_cases z : (rf_all t false o w).1 = 0
  · rw [rf_law, if_pos z, rf_cL, decide_eq_true z]
    show upd (upd (rf_all t false o w).2.1 14 ((rf_all t false o w).2.1 12)) 0 (nI 1) 0 = nI 1
    exact rf_upd_eq
  · rw [rf_law, if_neg z, rf_cL, decide_eq_false z]
    show upd (upd (rf_all t false o w).2.1 14 (-1)) 7 (nI 0) 0 = nI 0
    rw [rf_upd_ne (by decide), rf_upd_ne (by decide)]
    exact lp_all0 hOb
theorem lp_t_war {v : rf_W} (hOb : rf_Ob o) : (rf_war t o w v).2.2.1 0 = nI (rf_cW t o w) := by
  by_cases z : (rf_all t true o w).1 = 0
  · rw [rf_war, if_pos z, rf_cW, decide_eq_true z]
    show upd (upd (rf_all t true o w).2.1 14 ((rf_all t true o w).2.1 12)) 0 (nI 1) 0 = nI 1
    exact rf_upd_eq
  · by_cases z2 : (rf_all t true o w).2.2 3 = nI 12
    · rw [rf_war, if_neg z, if_pos z2, rf_cW, decide_eq_false z, decide_eq_true z2]
      show upd (upd (rf_all t true o w).2.1 14 (-1)) 0 (nI 2) 0 = nI 2
      exact rf_upd_eq
    · rw [rf_war, if_neg z, if_neg z2, rf_cW, decide_eq_false z, decide_eq_false z2]
      show upd (upd (rf_all t true o w).2.1 14 (-1)) 7 (nI 0) 0 = nI 0
      rw [rf_upd_ne (by decide), rf_upd_ne (by decide)]
      exact lp_all0 hOb
theorem lp_a_war {v v' : rf_W} : (rf_war t o w v).1 = (rf_war t o w v').1 := by
  by_cases z : (rf_all t true o w).1 = 0
  · rw [rf_war, rf_war, if_pos z, if_pos z]
  · by_cases z2 : (rf_all t true o w).2.2 3 = nI 12
    · rw [rf_war, rf_war, if_neg z, if_neg z, if_pos z2, if_pos z2]
    · rw [rf_war, rf_war, if_neg z, if_neg z, if_neg z2, if_neg z2]
theorem lp_feed {f : rf_W} {x1 x2 x3 x4 x5 : Int32} : (if rf_nat (o 9) + 20 ≤ 400 then nI (rf_nat (o 9) + 20) else -1) = (rf_feed o t f x1 x2 x3 x4 x5).1 := by
  unfold rf_feed
  split <;> rfl
theorem lp_undo_a : am_b (decide (0 < rf_rmd o)) = am_b (rf_undo o w a).1 := by
  by_cases z : rf_rmd o = 0
  · rw [rf_undo, if_pos z, z]; rfl
  · rw [rf_undo, if_neg z, decide_eq_true (Nat.pos_of_ne_zero z)]
theorem lp_back_a : am_b (!decide (o 6 = 0)) = am_b (rf_back o w a).1 := by
  by_cases z : o 6 = 0
  · rw [rf_back, if_pos z, decide_eq_true z]; rfl
  · rw [rf_back, if_neg z, decide_eq_false z]; rfl
theorem lp_undo (R : cl_R r h i) (p0 : rf_rmd (h 322) = 0 → h9 = h) (p1 : 0 < rf_rmd (h 322) → cl_Sc h9 25 (rf_act (h 323) (h 327) (rf_rmd (h 322) - 1)) ∧ h9 132 1 = nI (rf_rmd (h 322) - 1) ∧ ∀ i, (i < 25 ∨ 40 ≤ i) ∧ i ≠ 132 → h9 i = h i) (F : ∀ j, j ≠ 322 → j ≠ 323 → c j = h9 j)
    (e322 : c 322 = (rf_undo (h 322) (h 323) (h 327)).2.1) (e323 : c 323 = (rf_undo (h 322) (h 323) (h 327)).2.2) : cl_R r c (i + 1) := by
  by_cases z : rf_rmd (h 322) = 0
  · rw [rf_undo, if_pos z] at e322 e323
    have e322 : c 322 = upd (h 322) 0 (nI 0) := e322
    have e323 : c 323 = h 323 := e323
    refine cl_R.k R (fun j _ _ _ _ _ a6 _ _ => ?_) (fun k hk => by rw [e322]; exact rf_upd_ne hk)
    by_cases q : j = 323
    · rw [q]; exact e323
    · rw [F j a6 q, p0 z]
  · obtain ⟨s1, s2, s3⟩ := p1 (Nat.pos_of_ne_zero z)
    rw [rf_undo, if_neg z] at e322 e323
    have f : ∀ j, 324 ≤ j → c j = h j := fun j hj => (F j (by omega) (by omega)).trans (s3 j (by omega))
    exact R.undo (Nat.pos_of_ne_zero z) s1 s2 s3 (fun j hj => F j (by omega) (by omega)) e322 e323 (f 324 (by decide)) (f 327 (by decide)) (f 328 (by decide))
theorem lp_back (R : cl_R r h i) (p0 : (h 0) 11 = 0 → h9 = h) (p1 : ¬ (h 0) 11 = 0 → (cl_Lo h9 4 (h 324) ∧ cl_La h9 17 (h 324) ∧ cl_Sc h9 25 (h 324)) ∧ h9 132 1 = nI 0 ∧ ∀ i, i ≠ 132 ∧ (i < 4 ∨ 40 ≤ i) → h9 i = h i) (F : ∀ j, j ≠ 322 → j ≠ 323 → c j = h9 j)
    (e322 : c 322 = (rf_back (h 322) (h 323) (h 324)).2.1) (e323 : c 323 = (rf_back (h 322) (h 323) (h 324)).2.2) : cl_R r c (i + 1) := by
  have im : (h 0) 11 = (h 322) 6 := R.2.2.1.2.1
  by_cases z : (h 322) 6 = 0
  · rw [rf_back, if_pos z] at e322 e323
    have e322 : c 322 = upd (h 322) 0 (nI 0) := e322
    have e323 : c 323 = h 323 := e323
    refine cl_R.k R (fun j _ _ _ _ _ a6 _ _ => ?_) (fun k hk => by rw [e322]; exact rf_upd_ne hk)
    by_cases q : j = 323
    · rw [q]; exact e323
    · rw [F j a6 q, p0 (im.trans z)]
  · obtain ⟨⟨s1, s2, s3⟩, s4, s5⟩ := p1 (fun q => z (im.symm.trans q))
    rw [rf_back, if_neg z] at e322 e323
    have f : ∀ j, 324 ≤ j → c j = h j := fun j hj => (F j (by omega) (by omega)).trans (s5 j (by omega))
    exact R.back z s1 s2 s3 s4 s5 (fun j hj => F j (by omega) (by omega)) e322 e323 (f 324 (by decide)) (f 328 (by decide))
end LP2
