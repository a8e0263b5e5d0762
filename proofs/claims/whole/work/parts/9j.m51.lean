/-! THE CLASS: the text of a law; the draft of its steps -/
section LAW1
/-- the draft of a law, seen where the law stands -/
def rf_sh (w : rf_W) : rf_W := fun a => w (a + 849)
def rf_wE (n : Nat) (w : rf_W) (a b : Int32) : rf_W := upd (upd w (1629 + 2 * n) a) (1629 + 2 * n + 1) b
def cl_Ld (h : am_H) (n : Nat) (w : rf_W) : Prop := (h 70) 1 = nI n ∧ ∀ i, i < n → (h 75) i = cl_op (rf_sh w) i
def cl_oc (a b : Int32) : Int32 := if rf_nat a = 8 then b else if rf_nat a < 8 then nI (1000 + rf_nat a) else nI (999 + rf_nat a)
def cl_fe (h c : am_H) : Prop := (c 70) 0 = (h 70) 0 ∧ ∀ i, i ≠ 70 ∧ i ≠ 75 → c i = h i
def cl_fl (h c : am_H) : Prop := (c 70) 0 = (h 70) 0 ∧ ∀ i, i ≠ 1 ∧ i ≠ 70 ∧ i ≠ 75 → c i = h i
def cl_LS (h c : am_H) (t : rf_W) (x : Bool × rf_W × rf_W) : Prop := (x.1 = true → cl_to c t x.2.1 ∧ cl_Ld c (rf_ems x.2.1) x.2.2) ∧ (x.1 = false → (c 1) 3 = nI (rf_b x.2.1)) ∧ cl_fl h c
theorem cl_fl.rf {h : am_H} : cl_fl h h := ⟨rfl, fun _ _ => rfl⟩
theorem cl_fl.e {h g c : am_H} (W : cl_fl h g) (F : cl_fe g c) : cl_fl h c := ⟨F.1.trans W.1, fun i hi => (F.2 i ⟨hi.2.1, hi.2.2⟩).trans (W.2 i hi)⟩
theorem cl_fl.a {h g c : am_H} (W : cl_fl h g) (F : cl_fr g c 1 1) : cl_fl h c := ⟨by rw [F 70 (by omega)]; exact W.1, fun i hi => (F i (by omega)).trans (W.2 i hi)⟩
theorem cl_fl.tr {h g c : am_H} (W : cl_fl h g) (F : cl_fl g c) : cl_fl h c := ⟨F.1.trans W.1, fun i hi => (F.2 i hi).trans (W.2 i hi)⟩
theorem cl_Ld.a {g c : am_H} {n : Nat} {w : rf_W} (D : cl_Ld g n w) (F : cl_fr g c 1 1) : cl_Ld c n w := by
  rw [cl_Ld, F 70 (by omega), F 75 (by omega)]; exact D
theorem cl_Ld.n {g : am_H} {n m : Nat} {w : rf_W} (D : cl_Ld g n w) (e : m = n) : cl_Ld g m w := by rw [e]; exact D
theorem cl_to.e {g c : am_H} {t o : rf_W} (K : cl_to g t o) (F : cl_fe g c) : cl_to c t o := cl_to_h (F.2 1 (by decide)) (F.2 2 (by decide)) K
theorem rf_wE_sc {n i : Nat} {w : rf_W} {a b : Int32} (h : i < n) : cl_op (rf_sh (rf_wE n w a b)) i = cl_op (rf_sh w) i := by
  have e1 : rf_sh (rf_wE n w a b) (780 + 2 * i) = rf_sh w (780 + 2 * i) := by rw [rf_sh, rf_wE, rf_upd_ne (by omega), rf_upd_ne (by omega)]; rfl
  have e2 : rf_sh (rf_wE n w a b) (780 + 2 * i + 1) = rf_sh w (780 + 2 * i + 1) := by rw [rf_sh, rf_wE, rf_upd_ne (by omega), rf_upd_ne (by omega)]; rfl
  rw [cl_op, cl_op, rf_sc, rf_sc, e1, e2]
theorem rf_wE_op {n : Nat} {w : rf_W} {a b : Int32} : cl_op (rf_sh (rf_wE n w a b)) n = cl_oc a b := by
  have e1 : rf_sh (rf_wE n w a b) (780 + 2 * n) = a := by rw [rf_sh, rf_wE, rf_upd_ne (by omega), show 780 + 2 * n + 849 = 1629 + 2 * n by omega, rf_upd_eq]
  have e2 : rf_sh (rf_wE n w a b) (780 + 2 * n + 1) = b := by rw [rf_sh, rf_wE, show 780 + 2 * n + 1 + 849 = 1629 + 2 * n + 1 by omega, rf_upd_eq]
  rw [cl_op, rf_sc, e1, e2, cl_oc]
theorem cl_em_row {h : am_H} {op a b : Int32} {n : Nat} {w : rf_W} (D : cl_Ld h n w) (hop : op = cl_oc a b) : cl_Ld (am_row (am_row h 75 (upd (h 75) n op)) 70 (upd (h 70) 1 (nI (n + 1)))) (n + 1) (rf_wE n w a b) ∧ cl_fe h (am_row (am_row h 75 (upd (h 75) n op)) 70 (upd (h 70) 1 (nI (n + 1)))) := by
  refine ⟨⟨?_, fun i hi => ?_⟩, ?_, fun i hi => ?_⟩
  · rw [am_row_at, rf_upd_eq]
  · rw [am_row_ne _ _ _ (by decide), am_row_at]
    by_cases e : i = n
    · rw [e, rf_upd_eq, rf_wE_op]; exact hop
    · rw [rf_upd_ne e, rf_wE_sc (by omega)]; exact D.2 i (by omega)
  · rw [am_row_at, rf_upd_ne (by decide)]
  · rw [am_row_ne _ _ _ hi.1, am_row_ne _ _ _ hi.2]
/-! the reader's own fields -/
theorem rf_SB_em {t o : rf_W} : rf_SB t (rf_oEm o) = rf_SB t o := by rw [rf_SB, rf_SB, rf_e, rf_e, rf_p, rf_p, rf_oEm, rf_upd_ne (by decide), rf_upd_ne (by decide)]
theorem rf_e_em {o : rf_W} : rf_e (rf_oEm o) = rf_e o := by rw [rf_e, rf_e, rf_oEm, rf_upd_ne (by decide)]
theorem rf_b_em {o : rf_W} : rf_b (rf_oEm o) = rf_b o := by rw [rf_b, rf_b, rf_oEm, rf_upd_ne (by decide)]
theorem rf_p_em {o : rf_W} : rf_p (rf_oEm o) = rf_p o := by rw [rf_p, rf_p, rf_oEm, rf_upd_ne (by decide)]
theorem rf_ems_em {o : rf_W} (h : rf_ems o < 2147483647) : rf_ems (rf_oEm o) = rf_ems o + 1 := by rw [rf_ems, rf_oEm, rf_upd_eq, rf_nat_nI (by omega)]
theorem rf_ems_pb {o : rf_W} {p b : Nat} : rf_ems (rf_pb o p b) = rf_ems o := by rw [rf_ems, rf_ems, rf_pb_o (by decide) (by decide)]
theorem rf_SB_dp {t o : rf_W} {d : Nat} : rf_SB t (rf_dp o d) = rf_SB t o := by rw [rf_SB, rf_SB, rf_e, rf_e, rf_p, rf_p, rf_dp, rf_upd_ne (by decide), rf_upd_ne (by decide)]
theorem rf_e_dp {o : rf_W} {d : Nat} : rf_e (rf_dp o d) = rf_e o := by rw [rf_e, rf_e, rf_dp, rf_upd_ne (by decide)]
theorem rf_b_dp {o : rf_W} {d : Nat} : rf_b (rf_dp o d) = rf_b o := by rw [rf_b, rf_b, rf_dp, rf_upd_ne (by decide)]
theorem rf_ems_dp {o : rf_W} {d : Nat} : rf_ems (rf_dp o d) = rf_ems o := by rw [rf_ems, rf_ems, rf_dp, rf_upd_ne (by decide)]
theorem rf_rPas_c {t o o' : rf_W} {k : Nat} (he : rf_e o' = rf_e o) (hb : rf_SB t o' = rf_SB t o) : rf_rPas t o' k = rf_rPas t o k := by
  have hl : rf_SL t o' = rf_SL t o := by
    show rf_run t (rf_e o') 97 122 (rf_SB t o') = rf_run t (rf_e o) 97 122 (rf_SB t o)
    rw [he, hb]
  rw [rf_rPas, rf_rPas, hb, hl]
theorem rf_rSig_c {t o o' : rf_W} {c : Nat} (he : rf_e o' = rf_e o) (hb : rf_SB t o' = rf_SB t o) : rf_rSig t o' c = rf_rSig t o c := by rw [rf_rSig, rf_rSig, he, hb]
theorem rf_SD_c {t o o' : rf_W} (he : rf_e o' = rf_e o) (hb : rf_SB t o' = rf_SB t o) : rf_SD t o' = rf_SD t o := by
  show rf_run t (rf_e o') 48 57 (rf_SB t o') = rf_run t (rf_e o) 48 57 (rf_SB t o)
  rw [he, hb]
theorem rf_rNum_c {t o o' : rf_W} {lo : Nat} {hi : Int32} (he : rf_e o' = rf_e o) (hb : rf_SB t o' = rf_SB t o) : rf_rNum t o' lo hi = rf_rNum t o lo hi := by rw [rf_rNum, rf_rNum, rf_SD_c he hb, hb]
theorem rf_e_le {t o : rf_W} : rf_e (rf_oLe t o) = rf_e o := rf_e_pb
theorem cl_isW_le {t o : rf_W} {k : Nat} (hT : rf_To o) : rf_isW t (rf_oLe t o) k = rf_rPas t o k := by
  obtain ⟨a, b, _, d, e, f, g⟩ := rf_S_le (t := t) hT
  rw [rf_isW, rf_b_le hT, rf_oLe, rf_p_pb (by omega)]; rfl
theorem c_X8_adv_x {ad : Nat → Nat} {r : am_R} (hR : am_rs r) {h : am_H} (t q o : rf_W) (K : cl_to h t q) (he : rf_e o = rf_e q) (hs : cl_sp t (rf_e q) (rf_SB t q) = rf_p o) (hT : rf_To o) : am_CM mX8_advance 2 0 0 [.ref 1] (am_VV ad) r h (am_pr none r (fun c9 => cl_to c9 t o ∧ cl_fr h c9 1 1)) := by
  have h1 := c_X8_advance (ad := ad) hR t (rf_e q) K.1 K.2.1 K.2.2.2.1 (rf_p o) (by rw [← hs]; exact K.2.2.2.2.2.2.1) (by rw [← he]; exact hT.2.2.1)
  rw [← he] at h1
  exact h1
theorem cl_kd_sl {t o : rf_W} (hT : rf_To o) : cl_kd t (rf_e o) (rf_SB t o) = 1 ↔ rf_SL t o ≠ rf_SB t o := by
  constructor
  · intro h
    rcases cl_kd_is (t := t) (e := rf_e o) (b := rf_SB t o) with ⟨_, a⟩ | ⟨a, _⟩ | ⟨a, _⟩ | ⟨a, _⟩
    · have h2 := rf_run_t a
      have h3 := (rf_run_le (t := t) (e := rf_e o) (lo := 97) (hi := 122) (show rf_SB t o + 1 ≤ rf_e o from rf_at_lt a)).1
      have h4 : rf_SL t o = rf_run t (rf_e o) 97 122 (rf_SB t o) := rfl
      omega
    all_goals omega
  · intro h
    rcases cl_kd_is (t := t) (e := rf_e o) (b := rf_SB t o) with ⟨a, _⟩ | ⟨_, a, _⟩ | ⟨_, a, _⟩ | ⟨_, a, _⟩
    · exact a
    all_goals exact absurd (rf_run_f a) h
/-- a word of a part -/
def cl_pwv (k : Nat) : Int32 := if k = 0 then -1 else nI (999 + k)
theorem rf_wd_sl {t o : rf_W} (hT : rf_To o) (h : rf_wd t (rf_oLe t o) ≠ 0) : rf_SL t o ≠ rf_SB t o := fun z => by
  have key : ∀ k, 0 < am_len k → rf_isW t (rf_oLe t o) k = false := fun k hk => by
    rw [cl_isW_le hT, rf_rPas, rf_word, z, Nat.sub_self, decide_eq_false (by omega)]; rfl
  apply h
  rw [rf_wd, key 2 (by decide +kernel), key 16 (by decide +kernel), key 17 (by decide +kernel), key 18 (by decide +kernel), key 19 (by decide +kernel), key 20 (by decide +kernel), key 21 (by decide +kernel)]
  rfl
theorem rf_oNum_le {t o : rf_W} (hT : rf_To o) (h : rf_SL t o = rf_SB t o) : rf_oNum t (rf_oLe t o) = rf_oNum t o ∧ (∀ lo hi, rf_rNum t (rf_oLe t o) lo hi = rf_rNum t o lo hi) := by
  have hb : rf_SB t (rf_oLe t o) = rf_SB t o := by rw [rf_SB_le hT, h]; exact rf_sb_id
  refine ⟨?_, fun lo hi => rf_rNum_c rf_e_le hb⟩
  rw [rf_oNum, rf_oNum, rf_SD_c rf_e_le hb, hb, rf_oLe, rf_pb_pb]
theorem cl_num_sl {t o : rf_W} {lo : Nat} {hi : Int32} (hT : rf_To o) (h : rf_rNum t o lo hi ≠ 0) : rf_SL t o = rf_SB t o := by
  have h2 := cl_kd_fig.mpr (cl_fig_n h)
  exact Classical.byContradiction (fun z => by have := (cl_kd_sl hT).mpr z; omega)
/-- a part has been read -/
def cl_Pt (t q w oX : rf_W) (a b : Int32) : Prop := rf_part t q w = (true, rf_oEm oX, rf_wE (rf_ems q) w a b) ∧ rf_ems oX = rf_ems q ∧ rf_e oX = rf_e q ∧ cl_sp t (rf_e q) (rf_SB t q) = rf_p oX ∧ rf_To oX ∧ rf_p q < rf_p oX
theorem cl_part_n {t q w : rf_W} (hT : rf_To q) (hr : rf_rNum t q 0 (nI 999) ≠ 0) : ∃ oX a b, cl_Pt t q w oX a b ∧ nI (rf_rNum t q 0 (nI 999) - 1) = cl_oc a b := by
  obtain ⟨x1, x2, _, x4, x5, x6, x7⟩ := rf_S_le (t := t) hT
  have hl := cl_num_sl hT hr
  obtain ⟨e1, e2⟩ := rf_oNum_le hT hl
  have em : rf_ems (rf_oNum t q) = rf_ems q := rf_ems_pb
  refine ⟨rf_oNum t q, nI 8, am_oi (rf_rNum t q 0 (nI 999)), ⟨?_, em, rf_e_num, ?_, (rf_Tm_num hT).1, rf_num_s hT hr⟩, ?_⟩
  · rw [rf_part, if_pos hl, e1, e2, decide_eq_true (by omega)]
    show (true, rf_oEm (rf_oNum t q), rf_wE (rf_ems (rf_oNum t q)) w _ _) = _
    rw [em]
  · rw [cl_sp_2 (cl_kd_fig.mpr (cl_fig_n hr)), rf_oNum, rf_p_pb (by omega)]; rfl
  · rw [cl_oc, rf_nat_nI (by decide), if_pos rfl, am_oi_p (by omega)]
theorem cl_part_w {t q w : rf_W} (hT : rf_To q) (hw : rf_wd t (rf_oLe t q) ≠ 0) : ∃ oX a b, cl_Pt t q w oX a b ∧ cl_pwv (rf_wd t (rf_oLe t q)) = cl_oc a b := by
  obtain ⟨x1, x2, _, x4, x5, x6, x7⟩ := rf_S_le (t := t) hT
  have hl := rf_wd_sl hT hw
  have em : rf_ems (rf_oLe t q) = rf_ems q := rf_ems_pb
  have h7 := rf_wd_le (t := t) (o := rf_oLe t q)
  refine ⟨rf_oLe t q, am_oi (rf_wd t (rf_oLe t q)), nI 0, ⟨?_, em, rf_e_le, ?_, (rf_Tm_le hT).1, ?_⟩, ?_⟩
  · rw [rf_part, if_neg hl, decide_eq_true (by omega)]
    show (true, rf_oEm (rf_oLe t q), rf_wE (rf_ems (rf_oLe t q)) w _ _) = _
    rw [em]
  · rw [cl_sp_1 ((cl_kd_sl hT).mpr hl), rf_oLe, rf_p_pb (by omega)]; rfl
  · rw [rf_oLe, rf_p_pb (by omega)]; omega
  · rw [cl_pwv, if_neg hw, cl_oc, am_oi_p (by omega), rf_nat_nI (by omega), if_neg (by omega), if_pos (by omega)]
    exact congrArg nI (by omega)
theorem cl_part_0 {t q w : rf_W} (hT : rf_To q) (hr : rf_rNum t q 0 (nI 999) = 0) (hw : rf_wd t (rf_oLe t q) = 0) : (rf_part t q w).1 = false ∧ rf_b (rf_part t q w).2.1 = rf_SB t q := by
  rw [rf_part]
  by_cases hl : rf_SL t q = rf_SB t q
  · obtain ⟨e1, e2⟩ := rf_oNum_le hT hl
    rw [if_pos hl, e1, e2, hr]
    exact ⟨rfl, by show rf_b (rf_oEm (rf_oNum t q)) = _; rw [rf_b_em, rf_b_num hT]⟩
  · rw [if_neg hl, hw]
    exact ⟨rfl, by show rf_b (rf_oEm (rf_oLe t q)) = _; rw [rf_b_em, rf_b_le hT]⟩
/-- a sum from its k-th part on -/
def cl_sm (t : rf_W) (k f : Nat) (q w : rf_W) : Bool × rf_W × rf_W :=
  bif (rf_part t q w).1 then (if k = 0 then rf_sumL t f (rf_part t q w).2.1 (rf_part t q w).2.2 else rf_sumL t f (rf_oEm (rf_part t q w).2.1) (rf_wEm (rf_part t q w).2.1 (rf_part t q w).2.2 (nI 9) (nI 0))) else (false, (rf_part t q w).2)
theorem cl_sm_0 {t o w : rf_W} : rf_sum t o w = cl_sm t 0 402 o w := by rw [rf_sum, cl_sm, if_pos rfl]
theorem cl_sm_bad {t q w : rf_W} {k f : Nat} (h : (rf_part t q w).1 = false) : cl_sm t k f q w = (false, (rf_part t q w).2) := by rw [cl_sm, h]; rfl
theorem cl_sm_s {t q w oX : rf_W} {k : Nat} {a b : Int32} (hk : k < 401) (h : rf_part t q w = (true, rf_oEm oX, rf_wE (rf_ems q) w a b)) : cl_sm t k (402 - k) q w = rf_sumL t ((402 - (k + 1)) + 1) (if k = 0 then rf_oEm oX else rf_oEm (rf_oEm oX)) (if k = 0 then rf_wE (rf_ems q) w a b else rf_wEm (rf_oEm oX) (rf_wE (rf_ems q) w a b) (nI 9) (nI 0)) := by
  rw [cl_sm, h, show 402 - k = 402 - (k + 1) + 1 by omega]
  show (if k = 0 then _ else _) = _
  by_cases e : k = 0
  · rw [if_pos e, if_pos e, if_pos e]
  · rw [if_neg e, if_neg e, if_neg e]
theorem cl_sm_go {t o1 w1 : rf_W} {k f : Nat} (hs : rf_rSig t o1 43 = true) : rf_sumL t (f + 1) o1 w1 = cl_sm t (k + 1) f (rf_oSig t o1 43) w1 := by
  rw [rf_sumL, hs, cl_sm, if_neg (Nat.succ_ne_zero k)]
  rfl
theorem cl_sm_end {t o1 w1 : rf_W} {f : Nat} (hs : rf_rSig t o1 43 = false) : rf_sumL t (f + 1) o1 w1 = (true, rf_oSig t o1 43, w1) := by
  rw [rf_sumL, hs]; rfl
theorem cl_nn1 {n : Nat} (h : n < 2147483648) : ¬ nI n = -1 := fun z => nI_pos h (by rw [z]; decide)
theorem cl_pwv_0 {t o : rf_W} (h : cl_pwv (rf_wd t o) = -1) : rf_wd t o = 0 := by
  have h7 := rf_wd_le (t := t) (o := o)
  rw [cl_pwv] at h
  by_cases e : rf_wd t o = 0
  · exact e
  · rw [if_neg e] at h
    exact absurd h (cl_nn1 (by omega))
theorem cl_pwv_n {t o : rf_W} (h : ¬ cl_pwv (rf_wd t o) = -1) : rf_wd t o ≠ 0 := fun z => h (by rw [cl_pwv, if_pos z])
theorem cl_part_end {t q w : rf_W} (hT : rf_To q) (h : 400 ≤ rf_p q) : (rf_part t q w).1 = false ∧ rf_b (rf_part t q w).2.1 = rf_SB t q := by
  obtain ⟨x1, x2, x3, x4, x5, x6, x7⟩ := rf_S_le (t := t) hT
  exact cl_part_0 hT (cl_num_z (cl_fig_end hT h)) (Classical.byContradiction (fun z => rf_wd_sl hT z (by omega)))
theorem cl_cr_em {o : rf_W} (h : rf_cr o) (hb : rf_b o ≤ rf_p o) (hs : rf_ems o + 1 < rf_p o) : rf_cr (rf_oEm o) := by
  obtain ⟨a, b, c, d⟩ := rf_Tq_em h.1 hb h.n
  exact ⟨a.1, a.2.2.2.2, by omega⟩
end LAW1

set_option maxHeartbeats 400000 in
theorem c_X1_emit_o {ad : Nat → Nat} {r : am_R} (hR : am_rs r) {h : am_H} (op : Int32) (n : Nat) (u : rf_W) (D : cl_Ld (h) n u) (hn : n < 400) (a : Int32) (b : Int32) (hop : op = cl_oc a b)  : am_CM mX1_emit 1 0 0 [.ref 70, .int op] (am_VV ad) r h (am_pr none r (fun c9 => cl_Ld c9 (n + 1) (rf_wE n u a b) ∧ cl_fe (h) c9)) := by
  refine am_CM.of (by decide +kernel) (Nat.le_of_ble_eq_true rfl) (fun X C T => ?_)
  show am_G X (am_VV ad) (0, 0) 0 [(0, .ref 70), (1, .int op)] [] r h
  refine am_aload_n (pc := 0) C dX1_emit_0 rfl ?_
  refine am_getR (pc := 1) (j := 75) C dX1_emit_1 f1_28 bn_70 sh_70 (rf_70_6 hR) ?_
  refine am_aload_n (pc := 4) C dX1_emit_4 rfl ?_
  refine am_getI (pc := 5) C dX1_emit_5 f1_37 bn_70 sh_70 ?_
  refine am_top (show ((h 70) 1) = (nI n) from D.1) ?_
  refine am_iload_n (pc := 8) C dX1_emit_8 rfl ?_
  refine am_callSNv (Y := mX11_put) (pc := 9) (st := []) (As := [.ref 75, .int (nI n), .int op]) (h2 := (am_row h 75 (upd (h 75) n op))) C dX1_emit_9 k1_44 v_X11_put rfl rfl (by decide) (Nat.zero_le _) (Nat.zero_le _) (Nat.le_of_ble_eq_true rfl) (c_X11_put 75 n op 400 bn_75 sh_75 (show n < 400 from by omega) (by decide)) ?_
  refine am_aload_n (pc := 12) C dX1_emit_12 rfl ?_
  refine am_dup (pc := 13) C dX1_emit_13 rfl ?_
  refine am_getI (pc := 14) C dX1_emit_14 f1_37 bn_70 sh_70 ?_
  refine am_top (show ((h 70) 1) = (nI n) from D.1) ?_
  refine am_iconstN (pc := 17) (k := 1) C dX1_emit_17 ?_
  refine am_iaddN (pc := 18) C dX1_emit_18 ?_
  refine am_putI (pc := 19) C dX1_emit_19 f1_37 bn_70 sh_70 rfl rfl ?_
  refine am_hp (show am_up (am_row h 75 (upd (h 75) n op)) 70 1 (nI (n + 1)) = am_row (am_row h 75 (upd (h 75) n op)) 70 (upd (h 70) 1 (nI (n + 1))) from am_up_rw _ _ _ _) ?_
  exact am_vretvr T dX1_emit_22 rfl (Nat.le_refl _) (Nat.le_refl _) rfl (cl_em_row D hop)

set_option maxHeartbeats 400000 in
set_option maxRecDepth 100000 in
theorem c_X2_partWord {ad : Nat → Nat} {r : am_R} (hR : am_rs r) {h : am_H}  (t : rf_W) (o : rf_W) (hT : rf_To o) (K : cl_to (h) t o)  : am_CM mX2_partWord 8 0 0 [.ref 131] (am_VV ad) r h (am_po (some (.int (cl_pwv (rf_wd t (rf_oLe t o))))) r h) := by
  refine am_CM.of (by decide +kernel) (Nat.le_of_ble_eq_true rfl) (fun X C T => ?_)
  show am_G X (am_VV ad) (0, 0) 0 [(0, .ref 131)] [] r h
  refine am_aload_n (pc := 0) C dX2_partWord_0 rfl ?_
  refine am_getR (pc := 1) (j := 1) C dX2_partWord_1 f2_9 bn_131 sh_131 (rf_131_0 hR) ?_
  refine am_ldcs (pc := 4) (k := 2) (t := "soldier") C dX2_partWord_4 (by decide) (List.mem_of_getElem? (i := 16) rfl) ?_
  refine am_callVi (Y := mX8_says) (pc := 6) (st := []) (As := [.ref (am_SB + 2)]) (x := (am_b (rf_rPas t o 2))) (h2 := h) C dX2_partWord_6 k2_60 v_X8_says rfl rfl bn_1 sh_1 ⟨by decide, rfl⟩ (by decide) (Nat.zero_le _) (Nat.zero_le _) (Nat.le_of_ble_eq_true rfl) (c_X8_says_o (h := h) hR 2 t o (show cl_to (h) t o from K) (show 2 < am_TX.length from (by decide)) (show 0 < am_len 2 from (by decide +kernel))) ?_
  refine am_if_eqB (pc := 9) (tgt := 16) C dX2_partWord_9 (by decide) (fun q9 => ?_) (fun q9 => ?_)
  · skip
    refine am_aload_n (pc := 16) C dX2_partWord_16 rfl ?_
    refine am_getR (pc := 17) (j := 1) C dX2_partWord_17 f2_9 bn_131 sh_131 (rf_131_0 hR) ?_
    refine am_ldcs (pc := 20) (k := 16) (t := "side") C dX2_partWord_20 (by decide) (List.mem_of_getElem? (i := 17) rfl) ?_
    refine am_callVi (Y := mX8_says) (pc := 22) (st := []) (As := [.ref (am_SB + 16)]) (x := (am_b (rf_rPas t o 16))) (h2 := h) C dX2_partWord_22 k2_60 v_X8_says rfl rfl bn_1 sh_1 ⟨by decide, rfl⟩ (by decide) (Nat.zero_le _) (Nat.zero_le _) (Nat.le_of_ble_eq_true rfl) (c_X8_says_o (h := h) hR 16 t o (show cl_to (h) t o from K) (show 16 < am_TX.length from (by decide)) (show 0 < am_len 16 from (by decide +kernel))) ?_
    refine am_if_eqB (pc := 25) (tgt := 32) C dX2_partWord_25 (by decide) (fun q25 => ?_) (fun q25 => ?_)
    · skip
      refine am_aload_n (pc := 32) C dX2_partWord_32 rfl ?_
      refine am_getR (pc := 33) (j := 1) C dX2_partWord_33 f2_9 bn_131 sh_131 (rf_131_0 hR) ?_
      refine am_ldcs (pc := 36) (k := 17) (t := "place") C dX2_partWord_36 (by decide) (List.mem_of_getElem? (i := 18) rfl) ?_
      refine am_callVi (Y := mX8_says) (pc := 38) (st := []) (As := [.ref (am_SB + 17)]) (x := (am_b (rf_rPas t o 17))) (h2 := h) C dX2_partWord_38 k2_60 v_X8_says rfl rfl bn_1 sh_1 ⟨by decide, rfl⟩ (by decide) (Nat.zero_le _) (Nat.zero_le _) (Nat.le_of_ble_eq_true rfl) (c_X8_says_o (h := h) hR 17 t o (show cl_to (h) t o from K) (show 17 < am_TX.length from (by decide)) (show 0 < am_len 17 from (by decide +kernel))) ?_
      refine am_if_eqB (pc := 41) (tgt := 48) C dX2_partWord_41 (by decide) (fun q41 => ?_) (fun q41 => ?_)
      · skip
        refine am_aload_n (pc := 48) C dX2_partWord_48 rfl ?_
        refine am_getR (pc := 49) (j := 1) C dX2_partWord_49 f2_9 bn_131 sh_131 (rf_131_0 hR) ?_
        refine am_ldcs (pc := 52) (k := 18) (t := "hour") C dX2_partWord_52 (by decide) (List.mem_of_getElem? (i := 19) rfl) ?_
        refine am_callVi (Y := mX8_says) (pc := 54) (st := []) (As := [.ref (am_SB + 18)]) (x := (am_b (rf_rPas t o 18))) (h2 := h) C dX2_partWord_54 k2_60 v_X8_says rfl rfl bn_1 sh_1 ⟨by decide, rfl⟩ (by decide) (Nat.zero_le _) (Nat.zero_le _) (Nat.le_of_ble_eq_true rfl) (c_X8_says_o (h := h) hR 18 t o (show cl_to (h) t o from K) (show 18 < am_TX.length from (by decide)) (show 0 < am_len 18 from (by decide +kernel))) ?_
        refine am_if_eqB (pc := 57) (tgt := 64) C dX2_partWord_57 (by decide) (fun q57 => ?_) (fun q57 => ?_)
        · skip
          refine am_aload_n (pc := 64) C dX2_partWord_64 rfl ?_
          refine am_getR (pc := 65) (j := 1) C dX2_partWord_65 f2_9 bn_131 sh_131 (rf_131_0 hR) ?_
          refine am_ldcs (pc := 68) (k := 19) (t := "known") C dX2_partWord_68 (by decide) (List.mem_of_getElem? (i := 20) rfl) ?_
          refine am_callVi (Y := mX8_says) (pc := 70) (st := []) (As := [.ref (am_SB + 19)]) (x := (am_b (rf_rPas t o 19))) (h2 := h) C dX2_partWord_70 k2_60 v_X8_says rfl rfl bn_1 sh_1 ⟨by decide, rfl⟩ (by decide) (Nat.zero_le _) (Nat.zero_le _) (Nat.le_of_ble_eq_true rfl) (c_X8_says_o (h := h) hR 19 t o (show cl_to (h) t o from K) (show 19 < am_TX.length from (by decide)) (show 0 < am_len 19 from (by decide +kernel))) ?_
          refine am_if_eqB (pc := 73) (tgt := 80) C dX2_partWord_73 (by decide) (fun q73 => ?_) (fun q73 => ?_)
          · skip
            refine am_aload_n (pc := 80) C dX2_partWord_80 rfl ?_
            refine am_getR (pc := 81) (j := 1) C dX2_partWord_81 f2_9 bn_131 sh_131 (rf_131_0 hR) ?_
            refine am_ldcs (pc := 84) (k := 20) (t := "usable") C dX2_partWord_84 (by decide) (List.mem_of_getElem? (i := 21) rfl) ?_
            refine am_callVi (Y := mX8_says) (pc := 86) (st := []) (As := [.ref (am_SB + 20)]) (x := (am_b (rf_rPas t o 20))) (h2 := h) C dX2_partWord_86 k2_60 v_X8_says rfl rfl bn_1 sh_1 ⟨by decide, rfl⟩ (by decide) (Nat.zero_le _) (Nat.zero_le _) (Nat.le_of_ble_eq_true rfl) (c_X8_says_o (h := h) hR 20 t o (show cl_to (h) t o from K) (show 20 < am_TX.length from (by decide)) (show 0 < am_len 20 from (by decide +kernel))) ?_
            refine am_if_eqB (pc := 89) (tgt := 96) C dX2_partWord_89 (by decide) (fun q89 => ?_) (fun q89 => ?_)
            · skip
              refine am_aload_n (pc := 96) C dX2_partWord_96 rfl ?_
              refine am_getR (pc := 97) (j := 1) C dX2_partWord_97 f2_9 bn_131 sh_131 (rf_131_0 hR) ?_
              refine am_ldcs (pc := 100) (k := 21) (t := "foes") C dX2_partWord_100 (by decide) (List.mem_of_getElem? (i := 22) rfl) ?_
              refine am_callVi (Y := mX8_says) (pc := 102) (st := []) (As := [.ref (am_SB + 21)]) (x := (am_b (rf_rPas t o 21))) (h2 := h) C dX2_partWord_102 k2_60 v_X8_says rfl rfl bn_1 sh_1 ⟨by decide, rfl⟩ (by decide) (Nat.zero_le _) (Nat.zero_le _) (Nat.le_of_ble_eq_true rfl) (c_X8_says_o (h := h) hR 21 t o (show cl_to (h) t o from K) (show 21 < am_TX.length from (by decide)) (show 0 < am_len 21 from (by decide +kernel))) ?_
              refine am_if_eqB (pc := 105) (tgt := 114) C dX2_partWord_105 (by decide) (fun q105 => ?_) (fun q105 => ?_)
              · skip
                refine am_iconst (pc := 114) (v := -1) C dX2_partWord_114 rfl ?_
                exact am_ireti T dX2_partWord_115 rfl (Nat.le_refl _) (Nat.le_refl _) (by rw [show rf_wd t (rf_oLe t o) = 0 from (by rw [rf_wd, cl_isW_le hT, q9, cl_isW_le hT, q25, cl_isW_le hT, q41, cl_isW_le hT, q57, cl_isW_le hT, q73, cl_isW_le hT, q89, cl_isW_le hT, q105]; rfl)]; rfl) rfl rfl
              · skip
                refine am_sipush (pc := 108) (v := nI 1006) C dX2_partWord_108 (by decide) ?_
                refine am_goto (pc := 111) (tgt := 115) C dX2_partWord_111 (by decide) ?_
                exact am_ireti T dX2_partWord_115 rfl (Nat.le_refl _) (Nat.le_refl _) (by rw [show rf_wd t (rf_oLe t o) = 7 from (by rw [rf_wd, cl_isW_le hT, q9, cl_isW_le hT, q25, cl_isW_le hT, q41, cl_isW_le hT, q57, cl_isW_le hT, q73, cl_isW_le hT, q89, cl_isW_le hT, q105]; rfl)]; rfl) rfl rfl
            · skip
              refine am_sipush (pc := 92) (v := nI 1005) C dX2_partWord_92 (by decide) ?_
              exact am_ireti T dX2_partWord_95 rfl (Nat.le_refl _) (Nat.le_refl _) (by rw [show rf_wd t (rf_oLe t o) = 6 from (by rw [rf_wd, cl_isW_le hT, q9, cl_isW_le hT, q25, cl_isW_le hT, q41, cl_isW_le hT, q57, cl_isW_le hT, q73, cl_isW_le hT, q89]; rfl)]; rfl) rfl rfl
          · skip
            refine am_sipush (pc := 76) (v := nI 1004) C dX2_partWord_76 (by decide) ?_
            exact am_ireti T dX2_partWord_79 rfl (Nat.le_refl _) (Nat.le_refl _) (by rw [show rf_wd t (rf_oLe t o) = 5 from (by rw [rf_wd, cl_isW_le hT, q9, cl_isW_le hT, q25, cl_isW_le hT, q41, cl_isW_le hT, q57, cl_isW_le hT, q73]; rfl)]; rfl) rfl rfl
        · skip
          refine am_sipush (pc := 60) (v := nI 1003) C dX2_partWord_60 (by decide) ?_
          exact am_ireti T dX2_partWord_63 rfl (Nat.le_refl _) (Nat.le_refl _) (by rw [show rf_wd t (rf_oLe t o) = 4 from (by rw [rf_wd, cl_isW_le hT, q9, cl_isW_le hT, q25, cl_isW_le hT, q41, cl_isW_le hT, q57]; rfl)]; rfl) rfl rfl
      · skip
        refine am_sipush (pc := 44) (v := nI 1002) C dX2_partWord_44 (by decide) ?_
        exact am_ireti T dX2_partWord_47 rfl (Nat.le_refl _) (Nat.le_refl _) (by rw [show rf_wd t (rf_oLe t o) = 3 from (by rw [rf_wd, cl_isW_le hT, q9, cl_isW_le hT, q25, cl_isW_le hT, q41]; rfl)]; rfl) rfl rfl
    · skip
      refine am_sipush (pc := 28) (v := nI 1001) C dX2_partWord_28 (by decide) ?_
      exact am_ireti T dX2_partWord_31 rfl (Nat.le_refl _) (Nat.le_refl _) (by rw [show rf_wd t (rf_oLe t o) = 2 from (by rw [rf_wd, cl_isW_le hT, q9, cl_isW_le hT, q25]; rfl)]; rfl) rfl rfl
  · skip
    refine am_sipush (pc := 12) (v := nI 1000) C dX2_partWord_12 (by decide) ?_
    exact am_ireti T dX2_partWord_15 rfl (Nat.le_refl _) (Nat.le_refl _) (by rw [show rf_wd t (rf_oLe t o) = 1 from (by rw [rf_wd, cl_isW_le hT, q9]; rfl)]; rfl) rfl rfl

set_option maxHeartbeats 400000 in
set_option maxRecDepth 100000 in
theorem c_X2_sum {ad : Nat → Nat} {r : am_R} (hR : am_rs r) {h : am_H}  (t : rf_W) (o : rf_W) (w : rf_W) (hcr : rf_cr o) (K : cl_to (h) t o) (D : cl_Ld (h) (rf_ems o) w)  : am_CM mX2_sum 9 0 0 [.ref 131] (am_VV ad) r h (am_pr (some (.int (am_b ((rf_sum t o w).1)))) r (fun c9 => cl_LS (h) c9 t (rf_sum t o w))) := by
  refine am_CM.of (by decide +kernel) (Nat.le_of_ble_eq_true rfl) (fun X C T => ?_)
  show am_G X (am_VV ad) (0, 0) 0 [(0, .ref 131)] [] r h
  refine am_iconstN (pc := 0) (k := 0) C dX2_sum_0 ?_
  refine am_istore_n (pc := 1) (ls' := [(0, .ref 131), (1, .int (nI 0))]) C dX2_sum_1 (by decide) rfl ?_
  have L2 : ∀ (j2 : Nat) (gk : am_H) (k : Nat) (q : rf_W) (wv : rf_W), (hkj : k + j2 = 400) → (hcq : rf_cr q) → (hkp : k ≤ rf_p q) → (hsl : 0 < k → rf_ems q + 1 < rf_p q) → (hKq : cl_to gk t q) → (hDq : cl_Ld gk (rf_ems q) wv) → (hWk : cl_fl h gk) → (hms : rf_sum t o w = cl_sm t k (402 - k) q wv) → am_G X (am_VV ad) (0, 0) 2 [(0, .ref 131), (1, .int (nI k))] [] r gk := by
    intro j2
    induction j2 with
    | zero =>
      intro gk k q wv hkj hcq hkp hsl hKq hDq hWk hms
      have h0 := cl_part_end (t := t) (w := wv) hcq.1 (show 400 ≤ rf_p q by omega)
      have E9 : rf_sum t o w = (false, (rf_part t q wv).2) := hms.trans (cl_sm_bad h0.1)
      refine am_iload_n (pc := 2) C dX2_sum_2 rfl ?_
      refine am_sipush (pc := 3) (v := nI 400) C dX2_sum_3 (by decide) ?_
      refine am_icmp_geN (pc := 6) (tgt := 101) C dX2_sum_6 (by decide) (by omega) (by omega) (fun q6 => ?_) (fun q6 => ?_)
      · skip
        refine am_iconstN (pc := 101) (k := 0) C dX2_sum_101 ?_
        exact am_iretbr T dX2_sum_102 rfl (Nat.le_refl _) (Nat.le_refl _) (by rw [E9]; rfl) rfl (by rw [E9]; exact ⟨fun z => absurd z Bool.false_ne_true, fun _ => (cl_to_b hKq).trans (congrArg nI h0.2.symm), hWk⟩)
      · skip
        exact absurd q6 (by omega)
    | succ j2 ih2 =>
      intro gk k q wv hkj hcq hkp hsl hKq hDq hWk hms
      have hpe : rf_p q ≤ rf_e q := hcq.1.2.2.1
      have he4 : rf_e q < 401 := hcq.1.2.1.2
      refine am_iload_n (pc := 2) C dX2_sum_2 rfl ?_
      refine am_sipush (pc := 3) (v := nI 400) C dX2_sum_3 (by decide) ?_
      refine am_icmp_geN (pc := 6) (tgt := 101) C dX2_sum_6 (by decide) (by omega) (by omega) (fun q6 => ?_) (fun q6 => ?_)
      · skip
        exact absurd q6 (by omega)
      · skip
        refine am_aload_n (pc := 9) C dX2_sum_9 rfl ?_
        refine am_getR (pc := 10) (j := 1) C dX2_sum_10 f2_9 bn_131 sh_131 (rf_131_0 hR) ?_
        refine am_iconstN (pc := 13) (k := 0) C dX2_sum_13 ?_
        refine am_sipush (pc := 14) (v := nI 999) C dX2_sum_14 (by decide) ?_
        refine am_callVi (Y := mX8_isNumber) (pc := 17) (st := []) (As := [.int (nI 0), .int (nI 999)]) (x := (am_b (decide (rf_rNum t q 0 (nI 999) ≠ 0)))) (h2 := gk) C dX2_sum_17 k2_48 v_X8_isNumber rfl rfl bn_1 sh_1 ⟨by decide, rfl⟩ (by decide) (Nat.zero_le _) (Nat.zero_le _) (Nat.le_of_ble_eq_true rfl) (c_X8_isNumber_o (h := gk) hR 0 (nI 999) t q (show cl_to (gk) t q from hKq) (show 0 < 1000 from (by decide))) ?_
        refine am_if_eqB (pc := 20) (tgt := 33) C dX2_sum_20 (by decide) (fun q20 => ?_) (fun q20 => ?_)
        · skip
          refine am_aload_n (pc := 33) C dX2_sum_33 rfl ?_
          refine am_callVi (Y := mX2_partWord) (pc := 34) (st := []) (As := []) (x := (cl_pwv (rf_wd t (rf_oLe t q)))) (h2 := gk) C dX2_sum_34 k2_107 v_X2_partWord rfl rfl bn_131 sh_131 ⟨by decide, rfl⟩ (by decide) (Nat.zero_le _) (Nat.zero_le _) (Nat.le_of_ble_eq_true rfl) (c_X2_partWord (h := gk) hR t q (show rf_To q from hcq.1) (show cl_to (gk) t q from hKq)) ?_
          refine am_istore_n (pc := 37) (ls' := [(0, .ref 131), (1, .int (nI k)), (2, .int (cl_pwv (rf_wd t (rf_oLe t q))))]) C dX2_sum_37 (by decide) rfl ?_
          refine am_iload_n (pc := 38) C dX2_sum_38 rfl ?_
          refine am_iconst (pc := 39) (v := -1) C dX2_sum_39 rfl ?_
          refine am_icmp_ne (pc := 40) (tgt := 45) C dX2_sum_40 (by decide) (fun q40 => ?_) (fun q40 => ?_)
          · skip
            obtain ⟨oX, pa, pb, ⟨hP, hem, heX, hsX, hTX, hpX⟩, hop⟩ := cl_part_w (w := wv) hcq.1 (cl_pwv_n q40)
            have hn4 : rf_ems q < 400 := hcq.n.2
            have hgP := (rf_Tq_part (t := t) (w := wv) hcq).2 (by rw [hP])
            rw [hP] at hgP
            have hco : rf_cr (rf_oEm oX) := hgP.cr hcq
            refine am_aload_n (pc := 45) C dX2_sum_45 rfl ?_
            refine am_getR (pc := 46) (j := 70) C dX2_sum_46 f2_15 bn_131 sh_131 (rf_131_1 hR) ?_
            refine am_iload_n (pc := 49) C dX2_sum_49 rfl ?_
            refine am_callVvr (Y := mX1_emit) (pc := 50) (st := []) (As := [.int (cl_pwv (rf_wd t (rf_oLe t q)))]) (PP := fun c9 => cl_Ld c9 ((rf_ems q) + 1) (rf_wE (rf_ems q) wv pa pb) ∧ cl_fe (gk) c9) C dX2_sum_50 k2_82 v_X1_emit rfl rfl bn_70 sh_70 ⟨by decide, rfl⟩ (by decide) (Nat.zero_le _) (Nat.zero_le _) (Nat.le_of_ble_eq_true rfl) (c_X1_emit_o (h := gk) hR (cl_pwv (rf_wd t (rf_oLe t q))) (rf_ems q) wv (show cl_Ld (gk) (rf_ems q) wv from hDq) (show (rf_ems q) < 400 from hn4) pa pb (show (cl_pwv (rf_wd t (rf_oLe t q))) = cl_oc pa pb from hop)) (fun g50_1 hg50_1 => ?_)
            obtain ⟨D50, F50⟩ := hg50_1
            have W50 := hWk.e F50
            have K50 := hKq.e F50
            refine am_iload_n (pc := 53) C dX2_sum_53 rfl ?_
            refine am_if_leN (pc := 54) (tgt := 67) C dX2_sum_54 (by decide) (by omega) (fun q54 => ?_) (fun q54 => ?_)
            · skip
              have K71 := K50
              have hk0 : k = 0 := by omega
              refine am_aload_n (pc := 67) C dX2_sum_67 rfl ?_
              refine am_getR (pc := 68) (j := 1) C dX2_sum_68 f2_9 bn_131 sh_131 (rf_131_0 hR) ?_
              refine am_callVvr (Y := mX8_advance) (pc := 71) (st := []) (As := []) (PP := fun c9 => cl_to (c9) t oX ∧ cl_fr (g50_1) c9 1 1) C dX2_sum_71 k2_45 v_X8_advance rfl rfl bn_1 sh_1 ⟨by decide, rfl⟩ (by decide) (Nat.zero_le _) (Nat.zero_le _) (Nat.le_of_ble_eq_true rfl) (c_X8_adv_x (h := g50_1) hR t q oX (show cl_to (g50_1) t q from K71) (show rf_e oX = rf_e q from heX) (show cl_sp t (rf_e q) (rf_SB t q) = rf_p oX from hsX) (show rf_To oX from hTX)) (fun g71_2 hg71_2 => ?_)
              obtain ⟨K71, F71⟩ := hg71_2
              have W71 := W50.a F71
              obtain ⟨o1, w1, Ko1, hco1, E8, D71, hkp1⟩ : ∃ o1 w1, cl_to g71_2 t o1 ∧ rf_cr o1 ∧ rf_sum t o w = rf_sumL t (402 - (k + 1) + 1) o1 w1 ∧ cl_Ld g71_2 (rf_ems o1) w1 ∧ k + 1 ≤ rf_p o1 := ⟨_, _, cl_to_eq K71 rf_e_em rf_SB_em, hco, (hms.trans ((cl_sm_s (by omega) hP).trans (by rw [if_pos hk0, if_pos hk0]))), (D50.a F71).n (by rw [rf_ems_em (by omega), hem]), by rw [rf_p_em]; omega⟩
              refine am_aload_n (pc := 74) C dX2_sum_74 rfl ?_
              refine am_getR (pc := 75) (j := 1) C dX2_sum_75 f2_9 bn_131 sh_131 (rf_131_0 hR) ?_
              refine am_bipush (pc := 78) (v := nI 43) C dX2_sum_78 (by decide) ?_
              refine am_callVi (Y := mX8_isSign) (pc := 80) (st := []) (As := [.int (nI 43)]) (x := (am_b (rf_rSig t o1 43))) (h2 := g71_2) C dX2_sum_80 k2_96 v_X8_isSign rfl rfl bn_1 sh_1 ⟨by decide, rfl⟩ (by decide) (Nat.zero_le _) (Nat.zero_le _) (Nat.le_of_ble_eq_true rfl) (c_X8_isSign_o (h := g71_2) hR 43 t o1 (show cl_to (g71_2) t o1 from Ko1) (show cl_sg 43 from (by unfold cl_sg; decide))) ?_
              refine am_if_neB (pc := 83) (tgt := 88) C dX2_sum_83 (by decide) (fun q83 => ?_) (fun q83 => ?_)
              · skip
                refine am_aload_n (pc := 88) C dX2_sum_88 rfl ?_
                refine am_getR (pc := 89) (j := 1) C dX2_sum_89 f2_9 bn_131 sh_131 (rf_131_0 hR) ?_
                refine am_callVvr (Y := mX8_advance) (pc := 92) (st := []) (As := []) (PP := fun c9 => cl_to (c9) t (rf_oSig t o1 43) ∧ cl_fr (g71_2) c9 1 1) C dX2_sum_92 k2_45 v_X8_advance rfl rfl bn_1 sh_1 ⟨by decide, rfl⟩ (by decide) (Nat.zero_le _) (Nat.zero_le _) (Nat.le_of_ble_eq_true rfl) (c_X8_adv_s (h := g71_2) hR t o1 (show cl_to (g71_2) t o1 from Ko1) (show rf_To o1 from hco1.1) 43 (show cl_sg 43 from (by unfold cl_sg; decide)) (show rf_rSig t o1 43 = true from q83)) (fun g92_3 hg92_3 => ?_)
                obtain ⟨K92, F92⟩ := hg92_3
                refine am_iincN (pc := 95) (ls' := [(0, .ref 131), (1, .int (nI (k + 1))), (2, .int (cl_pwv (rf_wd t (rf_oLe t q))))]) C dX2_sum_95 rfl (am_up1 _) (by decide) rfl ?_
                refine am_goto (pc := 98) (tgt := 2) C dX2_sum_98 (by decide) ?_
                refine am_sub (ls' := [(0, .ref 131), (1, .int (nI (k + 1)))]) (by intro q hq; simp only [List.mem_cons, List.not_mem_nil, or_false] at hq ⊢; rcases hq with rfl | rfl <;> simp) ?_
                exact ih2 g92_3 (k + 1) (rf_oSig t o1 43) w1 (by omega) ((rf_Tm_sig hco1.1).cr hco1) (by have a9 := rf_sig_s hco1.1 q83; omega) (fun _ => by have a9 := rf_sig_s hco1.1 q83; have b9 : rf_ems (rf_oSig t o1 43) = rf_ems o1 := rf_ems_pb; have c9 := hco1.2.2; omega) K92 ((D71.a F92).n rf_ems_pb) (W71.a F92) (E8.trans (cl_sm_go q83))
              · skip
                refine am_iconstN (pc := 86) (k := 1) C dX2_sum_86 ?_
                have E9 : rf_sum t o w = (true, rf_oSig t o1 43, w1) := E8.trans (cl_sm_end q83)
                exact am_iretbr T dX2_sum_87 rfl (Nat.le_refl _) (Nat.le_refl _) (by rw [E9]; rfl) rfl (by rw [E9]; exact ⟨fun _ => ⟨cl_to_eq Ko1 rf_e_sig (rf_SB_sig_f hco1.1 q83), D71.n rf_ems_pb⟩, fun z => absurd z (fun y => Bool.false_ne_true y.symm), W71⟩)
            · skip
              have hk0 : ¬ k = 0 := by omega
              have hn5 : rf_ems q + 1 < 400 := by have := hsl (by omega); omega
              refine am_aload_n (pc := 57) C dX2_sum_57 rfl ?_
              refine am_getR (pc := 58) (j := 70) C dX2_sum_58 f2_15 bn_131 sh_131 (rf_131_1 hR) ?_
              refine am_sipush (pc := 61) (v := nI 1008) C dX2_sum_61 (by decide) ?_
              refine am_callVvr (Y := mX1_emit) (pc := 64) (st := []) (As := [.int (nI 1008)]) (PP := fun c9 => cl_Ld c9 ((rf_ems q + 1) + 1) (rf_wE (rf_ems q + 1) (rf_wE (rf_ems q) wv pa pb) (nI 9) (nI 0)) ∧ cl_fe (g50_1) c9) C dX2_sum_64 k2_82 v_X1_emit rfl rfl bn_70 sh_70 ⟨by decide, rfl⟩ (by decide) (Nat.zero_le _) (Nat.zero_le _) (Nat.le_of_ble_eq_true rfl) (c_X1_emit_o (h := g50_1) hR (nI 1008) (rf_ems q + 1) (rf_wE (rf_ems q) wv pa pb) (show cl_Ld (g50_1) (rf_ems q + 1) (rf_wE (rf_ems q) wv pa pb) from D50) (show (rf_ems q + 1) < 400 from hn5) (nI 9) (nI 0) (show (nI 1008) = cl_oc (nI 9) (nI 0) from (by rw [cl_oc, rf_nat_nI (by decide), if_neg (by decide), if_neg (by decide)]))) (fun g64_4 hg64_4 => ?_)
              obtain ⟨D64, F64⟩ := hg64_4
              have W64 := W50.e F64
              have K71 := K50.e F64
              refine am_aload_n (pc := 67) C dX2_sum_67 rfl ?_
              refine am_getR (pc := 68) (j := 1) C dX2_sum_68 f2_9 bn_131 sh_131 (rf_131_0 hR) ?_
              refine am_callVvr (Y := mX8_advance) (pc := 71) (st := []) (As := []) (PP := fun c9 => cl_to (c9) t oX ∧ cl_fr (g64_4) c9 1 1) C dX2_sum_71 k2_45 v_X8_advance rfl rfl bn_1 sh_1 ⟨by decide, rfl⟩ (by decide) (Nat.zero_le _) (Nat.zero_le _) (Nat.le_of_ble_eq_true rfl) (c_X8_adv_x (h := g64_4) hR t q oX (show cl_to (g64_4) t q from K71) (show rf_e oX = rf_e q from heX) (show cl_sp t (rf_e q) (rf_SB t q) = rf_p oX from hsX) (show rf_To oX from hTX)) (fun g71_5 hg71_5 => ?_)
              obtain ⟨K71, F71⟩ := hg71_5
              have W71 := W64.a F71
              obtain ⟨o1, w1, Ko1, hco1, E8, D71, hkp1⟩ : ∃ o1 w1, cl_to g71_5 t o1 ∧ rf_cr o1 ∧ rf_sum t o w = rf_sumL t (402 - (k + 1) + 1) o1 w1 ∧ cl_Ld g71_5 (rf_ems o1) w1 ∧ k + 1 ≤ rf_p o1 := ⟨_, _, cl_to_eq K71 (rf_e_em.trans rf_e_em) (rf_SB_em.trans rf_SB_em), cl_cr_em hco hgP.1.2.2.2.1 (by rw [rf_ems_em (by omega), rf_p_em, hem]; have := hsl (by omega); omega), (hms.trans ((cl_sm_s (by omega) hP).trans (by rw [if_neg hk0, if_neg hk0, show rf_wEm (rf_oEm oX) (rf_wE (rf_ems q) wv pa pb) (nI 9) (nI 0) = rf_wE (rf_ems (rf_oEm oX)) (rf_wE (rf_ems q) wv pa pb) (nI 9) (nI 0) from rfl, rf_ems_em (by omega), hem]))), (D64.a F71).n (by rw [rf_ems_em (by rw [rf_ems_em (by omega)]; omega), rf_ems_em (by omega), hem]), by rw [rf_p_em, rf_p_em]; omega⟩
              refine am_aload_n (pc := 74) C dX2_sum_74 rfl ?_
              refine am_getR (pc := 75) (j := 1) C dX2_sum_75 f2_9 bn_131 sh_131 (rf_131_0 hR) ?_
              refine am_bipush (pc := 78) (v := nI 43) C dX2_sum_78 (by decide) ?_
              refine am_callVi (Y := mX8_isSign) (pc := 80) (st := []) (As := [.int (nI 43)]) (x := (am_b (rf_rSig t o1 43))) (h2 := g71_5) C dX2_sum_80 k2_96 v_X8_isSign rfl rfl bn_1 sh_1 ⟨by decide, rfl⟩ (by decide) (Nat.zero_le _) (Nat.zero_le _) (Nat.le_of_ble_eq_true rfl) (c_X8_isSign_o (h := g71_5) hR 43 t o1 (show cl_to (g71_5) t o1 from Ko1) (show cl_sg 43 from (by unfold cl_sg; decide))) ?_
              refine am_if_neB (pc := 83) (tgt := 88) C dX2_sum_83 (by decide) (fun q83 => ?_) (fun q83 => ?_)
              · skip
                refine am_aload_n (pc := 88) C dX2_sum_88 rfl ?_
                refine am_getR (pc := 89) (j := 1) C dX2_sum_89 f2_9 bn_131 sh_131 (rf_131_0 hR) ?_
                refine am_callVvr (Y := mX8_advance) (pc := 92) (st := []) (As := []) (PP := fun c9 => cl_to (c9) t (rf_oSig t o1 43) ∧ cl_fr (g71_5) c9 1 1) C dX2_sum_92 k2_45 v_X8_advance rfl rfl bn_1 sh_1 ⟨by decide, rfl⟩ (by decide) (Nat.zero_le _) (Nat.zero_le _) (Nat.le_of_ble_eq_true rfl) (c_X8_adv_s (h := g71_5) hR t o1 (show cl_to (g71_5) t o1 from Ko1) (show rf_To o1 from hco1.1) 43 (show cl_sg 43 from (by unfold cl_sg; decide)) (show rf_rSig t o1 43 = true from q83)) (fun g92_6 hg92_6 => ?_)
                obtain ⟨K92, F92⟩ := hg92_6
                refine am_iincN (pc := 95) (ls' := [(0, .ref 131), (1, .int (nI (k + 1))), (2, .int (cl_pwv (rf_wd t (rf_oLe t q))))]) C dX2_sum_95 rfl (am_up1 _) (by decide) rfl ?_
                refine am_goto (pc := 98) (tgt := 2) C dX2_sum_98 (by decide) ?_
                refine am_sub (ls' := [(0, .ref 131), (1, .int (nI (k + 1)))]) (by intro q hq; simp only [List.mem_cons, List.not_mem_nil, or_false] at hq ⊢; rcases hq with rfl | rfl <;> simp) ?_
                exact ih2 g92_6 (k + 1) (rf_oSig t o1 43) w1 (by omega) ((rf_Tm_sig hco1.1).cr hco1) (by have a9 := rf_sig_s hco1.1 q83; omega) (fun _ => by have a9 := rf_sig_s hco1.1 q83; have b9 : rf_ems (rf_oSig t o1 43) = rf_ems o1 := rf_ems_pb; have c9 := hco1.2.2; omega) K92 ((D71.a F92).n rf_ems_pb) (W71.a F92) (E8.trans (cl_sm_go q83))
              · skip
                refine am_iconstN (pc := 86) (k := 1) C dX2_sum_86 ?_
                have E9 : rf_sum t o w = (true, rf_oSig t o1 43, w1) := E8.trans (cl_sm_end q83)
                exact am_iretbr T dX2_sum_87 rfl (Nat.le_refl _) (Nat.le_refl _) (by rw [E9]; rfl) rfl (by rw [E9]; exact ⟨fun _ => ⟨cl_to_eq Ko1 rf_e_sig (rf_SB_sig_f hco1.1 q83), D71.n rf_ems_pb⟩, fun z => absurd z (fun y => Bool.false_ne_true y.symm), W71⟩)
          · skip
            refine am_iconstN (pc := 43) (k := 0) C dX2_sum_43 ?_
            have h0 := cl_part_0 (t := t) (w := wv) hcq.1 (Classical.not_not.mp (of_decide_eq_false q20)) (cl_pwv_0 q40)
            have E9 : rf_sum t o w = (false, (rf_part t q wv).2) := hms.trans (cl_sm_bad h0.1)
            exact am_iretbr T dX2_sum_44 rfl (Nat.le_refl _) (Nat.le_refl _) (by rw [E9]; rfl) rfl (by rw [E9]; exact ⟨fun z => absurd z Bool.false_ne_true, fun _ => (cl_to_b hKq).trans (congrArg nI h0.2.symm), hWk⟩)
        · skip
          have hnb := rf_num_b (t := t) (o := q) (low := 0) (high := nI 999)
          refine am_aload_n (pc := 23) C dX2_sum_23 rfl ?_
          refine am_getR (pc := 24) (j := 1) C dX2_sum_24 f2_9 bn_131 sh_131 (rf_131_0 hR) ?_
          refine am_getI (pc := 27) C dX2_sum_27 f2_52 bn_1 sh_1 ?_
          refine am_top (show ((gk 1) 5) = (nI (rf_rNum t q 0 (nI 999) - 1)) from (cl_to_v hKq (by decide) (of_decide_eq_true q20))) ?_
          refine am_goto (pc := 30) (tgt := 37) C dX2_sum_30 (by decide) ?_
          refine am_istore_n (pc := 37) (ls' := [(0, .ref 131), (1, .int (nI k)), (2, .int (nI (rf_rNum t q 0 (nI 999) - 1)))]) C dX2_sum_37 (by decide) rfl ?_
          refine am_iload_n (pc := 38) C dX2_sum_38 rfl ?_
          refine am_iconst (pc := 39) (v := -1) C dX2_sum_39 rfl ?_
          refine am_icmp_ne (pc := 40) (tgt := 45) C dX2_sum_40 (by decide) (fun q40 => ?_) (fun q40 => ?_)
          · skip
            obtain ⟨oX, pa, pb, ⟨hP, hem, heX, hsX, hTX, hpX⟩, hop⟩ := cl_part_n (w := wv) hcq.1 (of_decide_eq_true q20)
            have hn4 : rf_ems q < 400 := hcq.n.2
            have hgP := (rf_Tq_part (t := t) (w := wv) hcq).2 (by rw [hP])
            rw [hP] at hgP
            have hco : rf_cr (rf_oEm oX) := hgP.cr hcq
            refine am_aload_n (pc := 45) C dX2_sum_45 rfl ?_
            refine am_getR (pc := 46) (j := 70) C dX2_sum_46 f2_15 bn_131 sh_131 (rf_131_1 hR) ?_
            refine am_iload_n (pc := 49) C dX2_sum_49 rfl ?_
            refine am_callVvr (Y := mX1_emit) (pc := 50) (st := []) (As := [.int (nI (rf_rNum t q 0 (nI 999) - 1))]) (PP := fun c9 => cl_Ld c9 ((rf_ems q) + 1) (rf_wE (rf_ems q) wv pa pb) ∧ cl_fe (gk) c9) C dX2_sum_50 k2_82 v_X1_emit rfl rfl bn_70 sh_70 ⟨by decide, rfl⟩ (by decide) (Nat.zero_le _) (Nat.zero_le _) (Nat.le_of_ble_eq_true rfl) (c_X1_emit_o (h := gk) hR (nI (rf_rNum t q 0 (nI 999) - 1)) (rf_ems q) wv (show cl_Ld (gk) (rf_ems q) wv from hDq) (show (rf_ems q) < 400 from hn4) pa pb (show (nI (rf_rNum t q 0 (nI 999) - 1)) = cl_oc pa pb from hop)) (fun g50_7 hg50_7 => ?_)
            obtain ⟨D50, F50⟩ := hg50_7
            have W50 := hWk.e F50
            have K50 := hKq.e F50
            refine am_iload_n (pc := 53) C dX2_sum_53 rfl ?_
            refine am_if_leN (pc := 54) (tgt := 67) C dX2_sum_54 (by decide) (by omega) (fun q54 => ?_) (fun q54 => ?_)
            · skip
              have K71 := K50
              have hk0 : k = 0 := by omega
              refine am_aload_n (pc := 67) C dX2_sum_67 rfl ?_
              refine am_getR (pc := 68) (j := 1) C dX2_sum_68 f2_9 bn_131 sh_131 (rf_131_0 hR) ?_
              refine am_callVvr (Y := mX8_advance) (pc := 71) (st := []) (As := []) (PP := fun c9 => cl_to (c9) t oX ∧ cl_fr (g50_7) c9 1 1) C dX2_sum_71 k2_45 v_X8_advance rfl rfl bn_1 sh_1 ⟨by decide, rfl⟩ (by decide) (Nat.zero_le _) (Nat.zero_le _) (Nat.le_of_ble_eq_true rfl) (c_X8_adv_x (h := g50_7) hR t q oX (show cl_to (g50_7) t q from K71) (show rf_e oX = rf_e q from heX) (show cl_sp t (rf_e q) (rf_SB t q) = rf_p oX from hsX) (show rf_To oX from hTX)) (fun g71_8 hg71_8 => ?_)
              obtain ⟨K71, F71⟩ := hg71_8
              have W71 := W50.a F71
              obtain ⟨o1, w1, Ko1, hco1, E8, D71, hkp1⟩ : ∃ o1 w1, cl_to g71_8 t o1 ∧ rf_cr o1 ∧ rf_sum t o w = rf_sumL t (402 - (k + 1) + 1) o1 w1 ∧ cl_Ld g71_8 (rf_ems o1) w1 ∧ k + 1 ≤ rf_p o1 := ⟨_, _, cl_to_eq K71 rf_e_em rf_SB_em, hco, (hms.trans ((cl_sm_s (by omega) hP).trans (by rw [if_pos hk0, if_pos hk0]))), (D50.a F71).n (by rw [rf_ems_em (by omega), hem]), by rw [rf_p_em]; omega⟩
              refine am_aload_n (pc := 74) C dX2_sum_74 rfl ?_
              refine am_getR (pc := 75) (j := 1) C dX2_sum_75 f2_9 bn_131 sh_131 (rf_131_0 hR) ?_
              refine am_bipush (pc := 78) (v := nI 43) C dX2_sum_78 (by decide) ?_
              refine am_callVi (Y := mX8_isSign) (pc := 80) (st := []) (As := [.int (nI 43)]) (x := (am_b (rf_rSig t o1 43))) (h2 := g71_8) C dX2_sum_80 k2_96 v_X8_isSign rfl rfl bn_1 sh_1 ⟨by decide, rfl⟩ (by decide) (Nat.zero_le _) (Nat.zero_le _) (Nat.le_of_ble_eq_true rfl) (c_X8_isSign_o (h := g71_8) hR 43 t o1 (show cl_to (g71_8) t o1 from Ko1) (show cl_sg 43 from (by unfold cl_sg; decide))) ?_
              refine am_if_neB (pc := 83) (tgt := 88) C dX2_sum_83 (by decide) (fun q83 => ?_) (fun q83 => ?_)
              · skip
                refine am_aload_n (pc := 88) C dX2_sum_88 rfl ?_
                refine am_getR (pc := 89) (j := 1) C dX2_sum_89 f2_9 bn_131 sh_131 (rf_131_0 hR) ?_
                refine am_callVvr (Y := mX8_advance) (pc := 92) (st := []) (As := []) (PP := fun c9 => cl_to (c9) t (rf_oSig t o1 43) ∧ cl_fr (g71_8) c9 1 1) C dX2_sum_92 k2_45 v_X8_advance rfl rfl bn_1 sh_1 ⟨by decide, rfl⟩ (by decide) (Nat.zero_le _) (Nat.zero_le _) (Nat.le_of_ble_eq_true rfl) (c_X8_adv_s (h := g71_8) hR t o1 (show cl_to (g71_8) t o1 from Ko1) (show rf_To o1 from hco1.1) 43 (show cl_sg 43 from (by unfold cl_sg; decide)) (show rf_rSig t o1 43 = true from q83)) (fun g92_9 hg92_9 => ?_)
                obtain ⟨K92, F92⟩ := hg92_9
                refine am_iincN (pc := 95) (ls' := [(0, .ref 131), (1, .int (nI (k + 1))), (2, .int (nI (rf_rNum t q 0 (nI 999) - 1)))]) C dX2_sum_95 rfl (am_up1 _) (by decide) rfl ?_
                refine am_goto (pc := 98) (tgt := 2) C dX2_sum_98 (by decide) ?_
                refine am_sub (ls' := [(0, .ref 131), (1, .int (nI (k + 1)))]) (by intro q hq; simp only [List.mem_cons, List.not_mem_nil, or_false] at hq ⊢; rcases hq with rfl | rfl <;> simp) ?_
                exact ih2 g92_9 (k + 1) (rf_oSig t o1 43) w1 (by omega) ((rf_Tm_sig hco1.1).cr hco1) (by have a9 := rf_sig_s hco1.1 q83; omega) (fun _ => by have a9 := rf_sig_s hco1.1 q83; have b9 : rf_ems (rf_oSig t o1 43) = rf_ems o1 := rf_ems_pb; have c9 := hco1.2.2; omega) K92 ((D71.a F92).n rf_ems_pb) (W71.a F92) (E8.trans (cl_sm_go q83))
              · skip
                refine am_iconstN (pc := 86) (k := 1) C dX2_sum_86 ?_
                have E9 : rf_sum t o w = (true, rf_oSig t o1 43, w1) := E8.trans (cl_sm_end q83)
                exact am_iretbr T dX2_sum_87 rfl (Nat.le_refl _) (Nat.le_refl _) (by rw [E9]; rfl) rfl (by rw [E9]; exact ⟨fun _ => ⟨cl_to_eq Ko1 rf_e_sig (rf_SB_sig_f hco1.1 q83), D71.n rf_ems_pb⟩, fun z => absurd z (fun y => Bool.false_ne_true y.symm), W71⟩)
            · skip
              have hk0 : ¬ k = 0 := by omega
              have hn5 : rf_ems q + 1 < 400 := by have := hsl (by omega); omega
              refine am_aload_n (pc := 57) C dX2_sum_57 rfl ?_
              refine am_getR (pc := 58) (j := 70) C dX2_sum_58 f2_15 bn_131 sh_131 (rf_131_1 hR) ?_
              refine am_sipush (pc := 61) (v := nI 1008) C dX2_sum_61 (by decide) ?_
              refine am_callVvr (Y := mX1_emit) (pc := 64) (st := []) (As := [.int (nI 1008)]) (PP := fun c9 => cl_Ld c9 ((rf_ems q + 1) + 1) (rf_wE (rf_ems q + 1) (rf_wE (rf_ems q) wv pa pb) (nI 9) (nI 0)) ∧ cl_fe (g50_7) c9) C dX2_sum_64 k2_82 v_X1_emit rfl rfl bn_70 sh_70 ⟨by decide, rfl⟩ (by decide) (Nat.zero_le _) (Nat.zero_le _) (Nat.le_of_ble_eq_true rfl) (c_X1_emit_o (h := g50_7) hR (nI 1008) (rf_ems q + 1) (rf_wE (rf_ems q) wv pa pb) (show cl_Ld (g50_7) (rf_ems q + 1) (rf_wE (rf_ems q) wv pa pb) from D50) (show (rf_ems q + 1) < 400 from hn5) (nI 9) (nI 0) (show (nI 1008) = cl_oc (nI 9) (nI 0) from (by rw [cl_oc, rf_nat_nI (by decide), if_neg (by decide), if_neg (by decide)]))) (fun g64_10 hg64_10 => ?_)
              obtain ⟨D64, F64⟩ := hg64_10
              have W64 := W50.e F64
              have K71 := K50.e F64
              refine am_aload_n (pc := 67) C dX2_sum_67 rfl ?_
              refine am_getR (pc := 68) (j := 1) C dX2_sum_68 f2_9 bn_131 sh_131 (rf_131_0 hR) ?_
              refine am_callVvr (Y := mX8_advance) (pc := 71) (st := []) (As := []) (PP := fun c9 => cl_to (c9) t oX ∧ cl_fr (g64_10) c9 1 1) C dX2_sum_71 k2_45 v_X8_advance rfl rfl bn_1 sh_1 ⟨by decide, rfl⟩ (by decide) (Nat.zero_le _) (Nat.zero_le _) (Nat.le_of_ble_eq_true rfl) (c_X8_adv_x (h := g64_10) hR t q oX (show cl_to (g64_10) t q from K71) (show rf_e oX = rf_e q from heX) (show cl_sp t (rf_e q) (rf_SB t q) = rf_p oX from hsX) (show rf_To oX from hTX)) (fun g71_11 hg71_11 => ?_)
              obtain ⟨K71, F71⟩ := hg71_11
              have W71 := W64.a F71
              obtain ⟨o1, w1, Ko1, hco1, E8, D71, hkp1⟩ : ∃ o1 w1, cl_to g71_11 t o1 ∧ rf_cr o1 ∧ rf_sum t o w = rf_sumL t (402 - (k + 1) + 1) o1 w1 ∧ cl_Ld g71_11 (rf_ems o1) w1 ∧ k + 1 ≤ rf_p o1 := ⟨_, _, cl_to_eq K71 (rf_e_em.trans rf_e_em) (rf_SB_em.trans rf_SB_em), cl_cr_em hco hgP.1.2.2.2.1 (by rw [rf_ems_em (by omega), rf_p_em, hem]; have := hsl (by omega); omega), (hms.trans ((cl_sm_s (by omega) hP).trans (by rw [if_neg hk0, if_neg hk0, show rf_wEm (rf_oEm oX) (rf_wE (rf_ems q) wv pa pb) (nI 9) (nI 0) = rf_wE (rf_ems (rf_oEm oX)) (rf_wE (rf_ems q) wv pa pb) (nI 9) (nI 0) from rfl, rf_ems_em (by omega), hem]))), (D64.a F71).n (by rw [rf_ems_em (by rw [rf_ems_em (by omega)]; omega), rf_ems_em (by omega), hem]), by rw [rf_p_em, rf_p_em]; omega⟩
              refine am_aload_n (pc := 74) C dX2_sum_74 rfl ?_
              refine am_getR (pc := 75) (j := 1) C dX2_sum_75 f2_9 bn_131 sh_131 (rf_131_0 hR) ?_
              refine am_bipush (pc := 78) (v := nI 43) C dX2_sum_78 (by decide) ?_
              refine am_callVi (Y := mX8_isSign) (pc := 80) (st := []) (As := [.int (nI 43)]) (x := (am_b (rf_rSig t o1 43))) (h2 := g71_11) C dX2_sum_80 k2_96 v_X8_isSign rfl rfl bn_1 sh_1 ⟨by decide, rfl⟩ (by decide) (Nat.zero_le _) (Nat.zero_le _) (Nat.le_of_ble_eq_true rfl) (c_X8_isSign_o (h := g71_11) hR 43 t o1 (show cl_to (g71_11) t o1 from Ko1) (show cl_sg 43 from (by unfold cl_sg; decide))) ?_
              refine am_if_neB (pc := 83) (tgt := 88) C dX2_sum_83 (by decide) (fun q83 => ?_) (fun q83 => ?_)
              · skip
                refine am_aload_n (pc := 88) C dX2_sum_88 rfl ?_
                refine am_getR (pc := 89) (j := 1) C dX2_sum_89 f2_9 bn_131 sh_131 (rf_131_0 hR) ?_
                refine am_callVvr (Y := mX8_advance) (pc := 92) (st := []) (As := []) (PP := fun c9 => cl_to (c9) t (rf_oSig t o1 43) ∧ cl_fr (g71_11) c9 1 1) C dX2_sum_92 k2_45 v_X8_advance rfl rfl bn_1 sh_1 ⟨by decide, rfl⟩ (by decide) (Nat.zero_le _) (Nat.zero_le _) (Nat.le_of_ble_eq_true rfl) (c_X8_adv_s (h := g71_11) hR t o1 (show cl_to (g71_11) t o1 from Ko1) (show rf_To o1 from hco1.1) 43 (show cl_sg 43 from (by unfold cl_sg; decide)) (show rf_rSig t o1 43 = true from q83)) (fun g92_12 hg92_12 => ?_)
                obtain ⟨K92, F92⟩ := hg92_12
                refine am_iincN (pc := 95) (ls' := [(0, .ref 131), (1, .int (nI (k + 1))), (2, .int (nI (rf_rNum t q 0 (nI 999) - 1)))]) C dX2_sum_95 rfl (am_up1 _) (by decide) rfl ?_
                refine am_goto (pc := 98) (tgt := 2) C dX2_sum_98 (by decide) ?_
                refine am_sub (ls' := [(0, .ref 131), (1, .int (nI (k + 1)))]) (by intro q hq; simp only [List.mem_cons, List.not_mem_nil, or_false] at hq ⊢; rcases hq with rfl | rfl <;> simp) ?_
                exact ih2 g92_12 (k + 1) (rf_oSig t o1 43) w1 (by omega) ((rf_Tm_sig hco1.1).cr hco1) (by have a9 := rf_sig_s hco1.1 q83; omega) (fun _ => by have a9 := rf_sig_s hco1.1 q83; have b9 : rf_ems (rf_oSig t o1 43) = rf_ems o1 := rf_ems_pb; have c9 := hco1.2.2; omega) K92 ((D71.a F92).n rf_ems_pb) (W71.a F92) (E8.trans (cl_sm_go q83))
              · skip
                refine am_iconstN (pc := 86) (k := 1) C dX2_sum_86 ?_
                have E9 : rf_sum t o w = (true, rf_oSig t o1 43, w1) := E8.trans (cl_sm_end q83)
                exact am_iretbr T dX2_sum_87 rfl (Nat.le_refl _) (Nat.le_refl _) (by rw [E9]; rfl) rfl (by rw [E9]; exact ⟨fun _ => ⟨cl_to_eq Ko1 rf_e_sig (rf_SB_sig_f hco1.1 q83), D71.n rf_ems_pb⟩, fun z => absurd z (fun y => Bool.false_ne_true y.symm), W71⟩)
          · skip
            exact absurd q40 (cl_nn1 (by omega))
  exact L2 400 h 0 o w (by omega) hcr (Nat.zero_le _) (fun z => absurd z (by omega)) K D cl_fl.rf cl_sm_0

