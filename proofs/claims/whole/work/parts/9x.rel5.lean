/-! THE LOOP: texts, images, the tape -/
section REL5
theorem rf_lns_Dl {t : rf_W} : ∀ f n q w, n + f ≤ 15 → rf_Ta q → rf_Dl n (rf_ems q) w → (rf_lns t false f n q w).1 ≠ 0 → ∃ m, (rf_lns t false f n q w).1 = m + 1 ∧ m < 13 ∧ rf_Dl m (rf_ems (rf_lns t false f n q w).2.1) (rf_lns t false f n q w).2.2 ∧ rf_Ta (rf_lns t false f n q w).2.1
  | 0, n, q, w, _, _, _, h => by rw [rf_lns] at h; exact absurd rfl h
  | f + 1, n, q, w, hf, hTa, D, h => by
    rw [rf_lns] at h ⊢
    by_cases hn : n < 12
    · rw [rf_line_l rfl hn] at h ⊢
      cases hq : (rf_lnL t n (rf_oLe t q) w).1 with
      | false => rw [hq] at h; exact absurd rfl h
      | true =>
        rw [hq] at h
        have hT1 := cl_linl_Ta hTa hn hq
        have D1 := rf_Dl_L hn (rf_Ta_le (t := t) hTa) D hq
        have h2 : (if rf_p (rf_oBl t (rf_lnL t n (rf_oLe t q) w).2.1) = rf_e (rf_oBl t (rf_lnL t n (rf_oLe t q) w).2.1) then _ else _ : Nat × rf_W × rf_W).1 ≠ 0 := h
        by_cases he : rf_p (rf_oBl t (rf_lnL t n (rf_oLe t q) w).2.1) = rf_e (rf_oBl t (rf_lnL t n (rf_oLe t q) w).2.1)
        · rw [cond_true, if_pos he]
          exact ⟨n + 1, rfl, by omega, D1.le (Nat.le_of_eq (show rf_ems _ = rf_ems (rf_oBl t _) from rf_ems_pb.symm)), rf_Ta_bl hT1⟩
        · rw [if_neg he] at h2
          rw [cond_true, if_neg he]
          cases hs : rf_isAt t (rf_oBl t (rf_lnL t n (rf_oLe t q) w).2.1) 59 59 with
          | false => rw [hs] at h2; exact absurd rfl h2
          | true =>
            rw [hs] at h2
            exact rf_lns_Dl f (n + 1) _ _ (by omega) (rf_Ta_59 (rf_Ta_bl hT1) (rf_isAt_lt hs)) (D1.le (Nat.le_of_eq rf_ems_59.symm)) h2
    · rw [rf_line_l0 rfl (by omega)] at h; exact absurd rfl h
theorem rf_all_Dl {t o w : rf_W} (hOb : rf_Ob o) (h : (rf_all t false o w).1 ≠ 0) : ∃ m, (rf_all t false o w).1 = m + 1 ∧ m < 13 ∧ rf_Dl m (rf_ems (rf_all t false o w).2.1) (rf_all t false o w).2.2 ∧ rf_Ta (rf_all t false o w).2.1 := by
  have hT0 := rf_Ta_bl (t := t) (rf_Ta_0 hOb)
  rw [rf_all] at h ⊢
  by_cases he : rf_p (rf_oBl t (rf_o0 o)) = rf_e (rf_oBl t (rf_o0 o))
  · rw [if_pos he]
    exact ⟨0, rfl, by omega, fun m hm => absurd hm (by omega), hT0⟩
  · rw [if_neg he] at h ⊢
    exact rf_lns_Dl 15 0 _ _ (by omega) hT0 (fun m hm => absurd hm (by omega)) h
/-- the reader's other fields stay -/
def rf_ko (q q' : rf_W) : Prop := (∀ k, k ≠ 10 → k ≠ 12 → k ≠ 13 → k ≠ 16 → q' k = q k) ∧ rf_n (q' 12) 401
theorem rf_ko.tr {a b c : rf_W} (h : rf_ko a b) (g : rf_ko b c) : rf_ko a c := ⟨fun k x y z v => (g.1 k x y z v).trans (h.1 k x y z v), g.2⟩
theorem rf_ko_bl {t q : rf_W} (h : rf_To q) : rf_ko q (rf_oBl t q) := ⟨fun k x y _ _ => rf_pb_o x y, (rf_Tm_bl (t := t) h).1.2.2.2⟩
theorem rf_ko_lns {t : rf_W} {b : Bool} : ∀ f n q w, rf_Ta q → rf_ko q (rf_lns t b f n q w).2.1
  | 0, n, q, w, h => by rw [rf_lns]; exact ⟨fun _ _ _ _ _ => rfl, h.1.2.2.2⟩
  | f + 1, n, q, w, h => by
    rw [rf_lns]
    obtain ⟨l1, l2⟩ := rf_line_ok (t := t) (w := w) (n := n) (b := b) h
    have k1 : rf_ko q (rf_line t b n q w).2.1 := ⟨fun k x y z v => l1.2.2.1 k x y z v, l1.1.2.2.2⟩
    cases hq : (rf_line t b n q w).1 with
    | false => exact k1
    | true =>
      have hT1 := (l2 hq).2.1
      have k2 := k1.tr (rf_ko_bl (t := t) hT1.1)
      rw [cond_true]
      split
      · exact k2
      · cases hs : rf_isAt t (rf_oBl t (rf_line t b n q w).2.1) 59 59 with
        | false => exact k2
        | true =>
          have hT2 := rf_Ta_59 (rf_Ta_bl (t := t) hT1) (rf_isAt_lt hs)
          have k3 : rf_ko (rf_oBl t (rf_line t b n q w).2.1) (rf_o59 (rf_oBl t (rf_line t b n q w).2.1)) := ⟨fun k x _ _ _ => rf_upd_ne x, hT2.1.2.2.2⟩
          exact (k2.tr k3).tr (rf_ko_lns f (n + 1) _ _ hT2)
theorem rf_ko_all {t o w : rf_W} {b : Bool} (hOb : rf_Ob o) : rf_ko (rf_o0 o) (rf_all t b o w).2.1 := by
  have hT := rf_Ta_0 hOb
  have k0 := rf_ko_bl (t := t) hT.1
  rw [rf_all]
  split
  · exact k0
  · exact k0.tr (rf_ko_lns 15 0 _ _ (rf_Ta_bl hT))
theorem rf_o0_k {o : rf_W} {k : Nat} (h0 : k ≠ 0) (h9 : k ≠ 9) (h10 : k ≠ 10) (h11 : k ≠ 11) (h16 : k ≠ 16) : rf_o0 o k = o k := by rw [rf_o0, rf_upd_ne h16, rf_uses, rf_upd_ne h10, rf_upd_ne h9, rf_upd_ne h11, rf_upd_ne h0]
theorem rf_o0_9 {o : rf_W} : rf_o0 o 9 = nI 0 := by rw [rf_o0, rf_upd_ne (by decide), rf_uses, rf_upd_ne (by decide), rf_upd_eq]
/-- the fields that count behind a text -/
theorem rf_all_o {t o w : rf_W} {b : Bool} (hOb : rf_Ob o) : (rf_all t b o w).2.1 6 = o 6 ∧ (rf_all t b o w).2.1 7 = o 7 ∧ (rf_all t b o w).2.1 9 = nI 0 ∧ rf_n ((rf_all t b o w).2.1 12) 401 := by
  have k := rf_ko_all (t := t) (w := w) (b := b) hOb
  exact ⟨(k.1 6 (by decide) (by decide) (by decide) (by decide)).trans (rf_o0_k (by decide) (by decide) (by decide) (by decide) (by decide)), (k.1 7 (by decide) (by decide) (by decide) (by decide)).trans (rf_o0_k (by decide) (by decide) (by decide) (by decide) (by decide)), (k.1 9 (by decide) (by decide) (by decide) (by decide)).trans rf_o0_9, k.2⟩
theorem rf_Lk_hi {w w' : rf_W} (h4 : w' 4 = w 4) (E : ∀ a, 731 ≤ a → w' a = w a) (hK : rf_Lk w) : rf_Lk w' := fun h0 n hn => by
  rw [h4] at h0
  rw [E 731 (by omega)] at hn
  obtain ⟨k1, k2⟩ := hK h0 n hn
  have f2 := E (732 + 4 * n + 2) (by omega)
  have f3 := E (732 + 4 * n + 3) (by omega)
  rw [f2, f3]
  refine ⟨fun i h1 h2 h8 => ?_, fun hlt => ?_⟩
  · rw [rf_sc, E (780 + 2 * i) (by omega)] at h8
    exact rf_n_congr (E _ (by omega)) (k1 i h1 h2 h8)
  · rw [rf_tl_c (v := w) _ _ _ (fun k h1 h2 => E _ (by omega))]; exact k2 hlt
theorem cl_by_0 {f t : Nat → Int32} {n : Nat} (h : n = 0) : cl_by f t n := fun k hk => absurd hk (by omega)
/-- a text that is thrown back: the world is as it was where the class looks -/
theorem cl_R.txtF {r : am_R} {h h9 c : am_H} {i : Nat} (R : cl_R r h i) (z9 : (h9 1) 1 = nI 0) (i9 : (h9 0) 11 = (h 0) 11) (K : ∀ j, j ≠ 0 ∧ j ≠ 1 ∧ (j < 57 ∨ 93 ≤ j) ∧ j ≠ 130 → h9 j = h j) (F : ∀ j, j < 322 → c j = h9 j) (w9 : (h9 0) 12 = (c 322) 14) (o6 : (c 322) 6 = (h 322) 6) (o7 : (c 322) 7 = (h 322) 7) (o9 : (c 322) 9 = nI 0) (o12 : rf_n ((c 322) 12) 401) (E : rf_eD (h 323) (c 323)) (e324 : c 324 = h 324) (e327 : c 327 = h 327) : cl_R r c (i + 1) := by
  have f : ∀ j, j < 322 → j ≠ 0 → j ≠ 1 → (j < 57 ∨ 93 ≤ j) → j ≠ 130 → c j = h j := fun j a1 a2 a3 a4 a5 => (F j a1).trans (K j ⟨a2, a3, a4, a5⟩)
  obtain ⟨⟨g, L, S, A⟩, ⟨ob, z, by_⟩, ⟨w1, im, img⟩, ps⟩ := id R
  exact R.to ⟨(g.D E).mono (by omega), cl_Lo_L g.1 E.L (cl_Lo_eq (fun j a b => f j (by omega) (by omega) (by omega) (by omega) (by omega)) L), cl_Sc_L g.1 E.L (cl_Sc_eq (fun j a b => f j (by omega) (by omega) (by omega) (by omega) (by omega)) S), cl_La_D g.2.1 E (cl_La_eq (fun j a b => f j (by omega) (by omega) (by omega) (by omega) (by omega)) A)⟩ ⟨⟨by rw [o9]; exact rf_n_mk (by decide) (by decide), o12⟩, by rw [F 1 (by decide), z9, o9], cl_by_0 (by rw [o9, rf_nat_nI (by decide)])⟩ (by rw [F 0 (by decide)]; exact w9) (by rw [F 0 (by decide), i9, o6]; exact im) o6 e324 (fun j a b => f j (by omega) (by omega) (by omega) (by omega) (by omega)) (R.psD E o7 (congrArg (fun q => q 1) (f 132 (by decide) (by decide) (by decide) (by decide) (by decide))) e327 (fun j a b => f j (by omega) (by omega) (by omega) (by omega) (by omega)))
/-- a text that stands: another world, nothing to undo -/
theorem cl_R.txtT {r : am_R} {h h9 c : am_H} {i : Nat} {w' : rf_W} (R : cl_R r h i) (z9 : (h9 1) 1 = nI 0) (i9 : (h9 0) 11 = (h 0) 11) (s9 : (h9 132) 1 = nI 0) (G' : cl_G w' (i + 1)) (L9 : cl_Lo h9 4 w') (S9 : cl_Sc h9 25 w') (A9 : cl_La h9 17 w') (K : ∀ j, 94 ≤ j → j < 130 → h9 j = h j) (F : ∀ j, j < 322 → c j = h9 j) (w9 : (h9 0) 12 = (c 322) 14) (o6 : (c 322) 6 = (h 322) 6) (o7 : (c 322) 7 = nI 0) (o9 : (c 322) 9 = nI 0) (o12 : rf_n ((c 322) 12) 401) (e323 : c 323 = w') (e324 : c 324 = h 324) : cl_R r c (i + 1) := by
  refine R.to ?_ ⟨⟨by rw [o9]; exact rf_n_mk (by decide) (by decide), o12⟩, by rw [F 1 (by decide), z9, o9], cl_by_0 (by rw [o9, rf_nat_nI (by decide)])⟩ (by rw [F 0 (by decide)]; exact w9) (by rw [F 0 (by decide), i9, o6]; exact R.2.2.1.2.1) o6 e324 (fun j a b => (F j (by omega)).trans (K j a b)) (R.ps0 o7 (by rw [F 132 (by decide)]; exact s9))
  rw [e323]
  exact ⟨G', cl_Lo_eq (fun j a b => F j (by omega)) L9, cl_Sc_eq (fun j a b => F j (by omega)) S9, cl_La_eq (fun j a b => F j (by omega)) A9⟩
theorem rf_eD_cp {x w b : rf_W} : rf_eD w (rf_cp x (rf_cp b w 0 0 1580) 0 0 1580) := fun a ha => by
  rw [rf_cp_in (by omega) (by omega), rf_cp_in (by omega) (by omega)]
  exact congrArg w (by omega)
theorem cl_R.law {r : am_R} {h h9 c : am_H} {i : Nat} (R : cl_R r h i) (P : cl_lw h h9 (h 328) (h 322) (h 323)) (F : ∀ j, j < 322 → c j = h9 j) (e322 : c 322 = (rf_law (h 328) (h 322) (h 323)).2.1) (e323 : c 323 = (rf_law (h 328) (h 322) (h 323)).2.2) (e324 : c 324 = h 324) (e327 : c 327 = h 327) : cl_R r c (i + 1) := by
  obtain ⟨p1, p2, pF, pT⟩ := P
  have g := R.1.1
  obtain ⟨q6, q7, q9, q12⟩ := rf_all_o (t := h 328) (w := h 323) (b := false) R.2.1.1
  have E : rf_eD (h 323) (rf_all (h 328) false (h 322) (h 323)).2.2 := fun a ha => rf_uw_all (by omega)
  by_cases h0 : (rf_all (h 328) false (h 322) (h 323)).1 = 0
  · obtain ⟨a1, a2⟩ := pF h0
    rw [rf_law, if_pos h0] at e322 e323
    have e322 : c 322 = upd (upd (rf_all (h 328) false (h 322) (h 323)).2.1 14 ((rf_all (h 328) false (h 322) (h 323)).2.1 12)) 0 (nI 1) := e322
    have e323 : c 323 = (rf_all (h 328) false (h 322) (h 323)).2.2 := e323
    exact R.txtF p1 p2 (fun j hj => a2 j (by omega)) F (by rw [e322, a1, rf_upd_ne (by decide), rf_upd_eq]; exact q12.1.symm) (by rw [e322, rf_upd_ne (by decide), rf_upd_ne (by decide)]; exact q6) (by rw [e322, rf_upd_ne (by decide), rf_upd_ne (by decide)]; exact q7) (by rw [e322, rf_upd_ne (by decide), rf_upd_ne (by decide)]; exact q9) (by rw [e322, rf_upd_ne (by decide), rf_upd_ne (by decide)]; exact q12) (by rw [e323]; exact E) e324 e327
  · obtain ⟨a1, a2, a3, a4⟩ := pT h0
    obtain ⟨n, hN, hn, Dl, hTe⟩ := rf_all_Dl R.2.1.1 h0
    have hee := cl_Ta_e hTe
    rw [rf_law, if_neg h0] at e322 e323 a2
    have e322 : c 322 = upd (upd (rf_all (h 328) false (h 322) (h 323)).2.1 14 (-1)) 7 (nI 0) := e322
    have e323' : c 323 = rf_lawW (rf_all (h 328) false (h 322) (h 323)).2.2 (rf_all (h 328) false (h 322) (h 323)).1 := e323
    have a2' : cl_La h9 17 (rf_lawW (rf_all (h 328) false (h 322) (h 323)).2.2 (rf_all (h 328) false (h 322) (h 323)).1) := a2
    have V := rf_I_D g.1 E
    have eL : rf_eL (h 323) (rf_lawW (rf_all (h 328) false (h 322) (h 323)).2.2 (rf_all (h 328) false (h 322) (h 323)).1) := fun a h1 h2 => (rf_lawW_lo h1 h2).trans (E a (by omega))
    have hLL := rf_L_lawW hn hee Dl
    rw [← hN] at hLL
    exact R.txtT p1 p2 a3 ⟨rf_I_lawW V, hLL.1, hLL.2, rf_n_le (eL 7 (by omega) (by omega)) g.2.2.2.1 (by omega), rf_n_le (eL 5 (by omega) (by omega)) g.2.2.2.2 (by omega)⟩ (cl_Lo_L g.1 eL (cl_Lo_eq (fun j a b => a4 j (by omega)) R.1.2.1)) (cl_Sc_L g.1 eL (cl_Sc_eq (fun j a b => a4 j (by omega)) R.1.2.2.1)) a2' (fun j a b => a4 j (by omega)) F (by rw [e322, a1, rf_upd_ne (by decide), rf_upd_eq]) (by rw [e322, rf_upd_ne (by decide), rf_upd_ne (by decide)]; exact q6) (by rw [e322]; exact rf_upd_eq) (by rw [e322, rf_upd_ne (by decide), rf_upd_ne (by decide)]; exact q9) (by rw [e322, rf_upd_ne (by decide), rf_upd_ne (by decide)]; exact q12) e323' e324
theorem cl_R.war {r : am_R} {h h9 c : am_H} {i : Nat} (R : cl_R r h i) (P : cl_wr h h9 (h 328) (h 322) (h 323)) (F : ∀ j, j < 322 → c j = h9 j) (e322 : c 322 = (rf_war (h 328) (h 322) (h 323) (h 325)).2.2.1) (e323 : c 323 = (rf_war (h 328) (h 322) (h 323) (h 325)).2.2.2) (e324 : c 324 = h 324) (e327 : c 327 = h 327) (hE : (rf_all (h 328) true (h 322) (h 323)).1 ≠ 0 → rf_I (rf_all (h 328) true (h 322) (h 323)).2.2 ∧ rf_Ew (h 323) (rf_all (h 328) true (h 322) (h 323)).2.2) : cl_R r c (i + 1) := by
  obtain ⟨p1, p2, pF, pG, pT⟩ := P
  have g := R.1.1
  obtain ⟨q6, q7, q9, q12⟩ := rf_all_o (t := h 328) (w := h 323) (b := true) R.2.1.1
  by_cases h0 : (rf_all (h 328) true (h 322) (h 323)).1 = 0
  · obtain ⟨a1, a2⟩ := pF h0
    rw [rf_war, if_pos h0] at e322 e323
    have e322 : c 322 = upd (upd (rf_all (h 328) true (h 322) (h 323)).2.1 14 ((rf_all (h 328) true (h 322) (h 323)).2.1 12)) 0 (nI 1) := e322
    have e323 : c 323 = rf_cp (rf_all (h 328) true (h 322) (h 323)).2.2 (rf_cp (h 325) (h 323) 0 0 1580) 0 0 1580 := e323
    exact R.txtF p1 p2 (fun j hj => a2 j (by omega)) F (by rw [e322, a1, rf_upd_ne (by decide), rf_upd_eq]; exact q12.1.symm) (by rw [e322, rf_upd_ne (by decide), rf_upd_ne (by decide)]; exact q6) (by rw [e322, rf_upd_ne (by decide), rf_upd_ne (by decide)]; exact q7) (by rw [e322, rf_upd_ne (by decide), rf_upd_ne (by decide)]; exact q9) (by rw [e322, rf_upd_ne (by decide), rf_upd_ne (by decide)]; exact q12) (by rw [e323]; exact rf_eD_cp) e324 e327
  · by_cases h12 : (rf_all (h 328) true (h 322) (h 323)).2.2 3 = nI 12
    · obtain ⟨a1, a2⟩ := pG h0 h12
      rw [rf_war, if_neg h0, if_pos h12] at e322 e323
      have e322 : c 322 = upd (upd (rf_all (h 328) true (h 322) (h 323)).2.1 14 (-1)) 0 (nI 2) := e322
      have e323 : c 323 = rf_cp (rf_all (h 328) true (h 322) (h 323)).2.2 (rf_cp (h 325) (h 323) 0 0 1580) 0 0 1580 := e323
      exact R.txtF p1 p2 (fun j hj => a2 j (by omega)) F (by rw [e322, a1, rf_upd_ne (by decide), rf_upd_eq]) (by rw [e322, rf_upd_ne (by decide), rf_upd_ne (by decide)]; exact q6) (by rw [e322, rf_upd_ne (by decide), rf_upd_ne (by decide)]; exact q7) (by rw [e322, rf_upd_ne (by decide), rf_upd_ne (by decide)]; exact q9) (by rw [e322, rf_upd_ne (by decide), rf_upd_ne (by decide)]; exact q12) (by rw [e323]; exact rf_eD_cp) e324 e327
    · obtain ⟨a1, a2, a3, a4, a5, a6⟩ := pT h0 h12
      obtain ⟨V, E⟩ := hE h0
      rw [rf_war, if_neg h0, if_neg h12] at e322 e323
      have e322 : c 322 = upd (upd (rf_all (h 328) true (h 322) (h 323)).2.1 14 (-1)) 7 (nI 0) := e322
      have e323 : c 323 = upd (rf_all (h 328) true (h 322) (h 323)).2.2 3 ((rf_all (h 328) true (h 322) (h 323)).2.2 3 + nI 1) := e323
      have e3 : (rf_all (h 328) true (h 322) (h 323)).2.2 3 = (h 323) 3 := E 3 (by omega)
      have x3 : rf_n ((h 323) 3) 13 := g.1.2.2.2.2.1.1
      have x3b : rf_nat ((h 323) 3) < 13 := x3.2
      have n12 : rf_nat ((h 323) 3) ≠ 12 := fun z => h12 (by rw [e3, x3.1, z])
      have v13 : rf_n ((rf_all (h 328) true (h 322) (h 323)).2.2 3 + nI 1) 13 := by rw [e3, x3.1, nI_add]; exact rf_n_mk (by omega) (by omega)
      exact R.txtT p1 p2 a5 ⟨rf_I_txt V v13, rf_Lw_txt E g.2.1, rf_Lk_hi ((rf_upd_ne (by decide)).trans (E 4 (by omega))) (fun a ha => (rf_upd_ne (by omega)).trans (E a (by omega))) g.2.2.1, rf_n_le ((rf_upd_ne (by decide)).trans (E 7 (by omega))) g.2.2.2.1 (by omega), rf_n_le ((rf_upd_ne (by decide)).trans (E 5 (by omega))) g.2.2.2.2 (by omega)⟩ a2 a3 a4 (fun j a b => a6 j (by omega)) F (by rw [e322, a1, rf_upd_ne (by decide), rf_upd_eq]) (by rw [e322, rf_upd_ne (by decide), rf_upd_ne (by decide)]; exact q6) (by rw [e322]; exact rf_upd_eq) (by rw [e322, rf_upd_ne (by decide), rf_upd_ne (by decide)]; exact q9) (by rw [e322, rf_upd_ne (by decide), rf_upd_ne (by decide)]; exact q12) e323 e324
theorem rf_lns_E {t : rf_W} : ∀ f n q w, rf_Ta q → rf_I w → (rf_lns t true f n q w).1 ≠ 0 → rf_I (rf_lns t true f n q w).2.2 ∧ rf_Ew w (rf_lns t true f n q w).2.2
  | 0, n, q, w, _, _, h => by rw [rf_lns] at h; exact absurd rfl h
  | f + 1, n, q, w, hTa, hI, h => by
    rw [rf_lns] at h ⊢
    obtain ⟨l1, l2⟩ := rf_line_ok (t := t) (w := w) (n := n) (b := true) hTa
    cases hq : (rf_line t true n q w).1 with
    | false => rw [hq] at h; exact absurd rfl h
    | true =>
      rw [hq] at h
      obtain ⟨-, hT1, hw⟩ := l2 hq
      obtain ⟨V, E⟩ := hw rfl hI
      have h2 : (if rf_p (rf_oBl t (rf_line t true n q w).2.1) = rf_e (rf_oBl t (rf_line t true n q w).2.1) then _ else _ : Nat × rf_W × rf_W).1 ≠ 0 := h
      by_cases he : rf_p (rf_oBl t (rf_line t true n q w).2.1) = rf_e (rf_oBl t (rf_line t true n q w).2.1)
      · rw [cond_true, if_pos he]; exact ⟨V, E⟩
      · rw [if_neg he] at h2
        rw [cond_true, if_neg he]
        cases hs : rf_isAt t (rf_oBl t (rf_line t true n q w).2.1) 59 59 with
        | false => rw [hs] at h2; exact absurd rfl h2
        | true =>
          rw [hs] at h2
          obtain ⟨a, b⟩ := rf_lns_E f (n + 1) _ _ (rf_Ta_59 (rf_Ta_bl (t := t) hT1) (rf_isAt_lt hs)) V h2
          exact ⟨a, E.tr b⟩
theorem rf_all_E {t o w : rf_W} (hOb : rf_Ob o) (hI : rf_I w) (h : (rf_all t true o w).1 ≠ 0) : rf_I (rf_all t true o w).2.2 ∧ rf_Ew w (rf_all t true o w).2.2 := by
  rw [rf_all] at h ⊢
  by_cases he : rf_p (rf_oBl t (rf_o0 o)) = rf_e (rf_oBl t (rf_o0 o))
  · rw [if_pos he]; exact ⟨hI, rf_Ew.rf⟩
  · rw [if_neg he] at h ⊢
    exact rf_lns_E 15 0 _ _ (rf_Ta_bl (rf_Ta_0 hOb)) hI h
end REL5
