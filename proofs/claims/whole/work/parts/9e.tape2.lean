/-! THE CLASS: its tape over the reference's own standing o -/
section TAPE2
theorem rf_run_end {t : rf_W} {e lo hi : Nat} : ∀ n p, e - p ≤ n → rf_at t e (rf_run t e lo hi p) lo hi = false
  | 0, p, h => by
    have h1 := rf_at_ge (t := t) (lo := lo) (hi := hi) (show e ≤ p by omega)
    rw [rf_run_f h1]; exact h1
  | n + 1, p, h => by
    cases q : rf_at t e p lo hi with
    | false => rw [rf_run_f q]; exact q
    | true =>
      rw [rf_run_t q]
      exact rf_run_end n (p + 1) (by omega)
theorem rf_sb_id {t : rf_W} {e p : Nat} : rf_sb t e (rf_sb t e p) = rf_sb t e p := rf_run_f (rf_run_end _ p (Nat.le_refl _))
theorem rf_SB_pb {t o : rf_W} {p b : Nat} (hp : p < 2147483648) : rf_SB t (rf_pb o p b) = rf_sb t (rf_e o) p := by rw [rf_SB, rf_e_pb, rf_p_pb hp]
theorem rf_SB_num {t o : rf_W} (h : rf_To o) : rf_SB t (rf_oNum t o) = rf_sb t (rf_e o) (rf_SD t o) := by
  obtain ⟨a, b, _, d, e, f, g⟩ := rf_S_le (t := t) h
  exact rf_SB_pb (by omega)
theorem rf_SB_bl {t o : rf_W} (h : rf_To o) : rf_SB t (rf_oBl t o) = rf_SB t o := by
  obtain ⟨a, b, _, d, e, f, g⟩ := rf_S_le (t := t) h
  rw [rf_oBl, rf_SB_pb (by omega)]; exact rf_sb_id
theorem rf_SB_le {t o : rf_W} (h : rf_To o) : rf_SB t (rf_oLe t o) = rf_sb t (rf_e o) (rf_SL t o) := by
  obtain ⟨a, b, _, d, e, f, g⟩ := rf_S_le (t := t) h
  exact rf_SB_pb (by omega)
theorem rf_SB_pas_t {t o : rf_W} {k : Nat} (h : rf_To o) (hk : rf_rPas t o k = true) : rf_SB t (rf_oPas t o k) = rf_sb t (rf_e o) (rf_SL t o) := by
  obtain ⟨a, b, _, d, e, f, g⟩ := rf_S_le (t := t) h
  rw [rf_oPas, hk]; exact rf_SB_pb (show rf_SL t o < _ by omega)
theorem rf_SB_pas_f {t o : rf_W} {k : Nat} (h : rf_To o) (hk : rf_rPas t o k = false) : rf_SB t (rf_oPas t o k) = rf_SB t o := by
  obtain ⟨a, b, _, d, e, f, g⟩ := rf_S_le (t := t) h
  rw [rf_oPas, hk]; exact (rf_SB_pb (show rf_SB t o < _ by omega)).trans rf_sb_id
theorem rf_SB_sig_t {t o : rf_W} {c : Nat} (h : rf_To o) (hk : rf_rSig t o c = true) : rf_SB t (rf_oSig t o c) = rf_sb t (rf_e o) (rf_SB t o + 1) := by
  obtain ⟨a, b, _, d, e, f, g⟩ := rf_S_le (t := t) h
  rw [rf_oSig, hk]; exact rf_SB_pb (show rf_SB t o + 1 < _ by omega)
theorem rf_SB_sig_f {t o : rf_W} {c : Nat} (h : rf_To o) (hk : rf_rSig t o c = false) : rf_SB t (rf_oSig t o c) = rf_SB t o := by
  obtain ⟨a, b, _, d, e, f, g⟩ := rf_S_le (t := t) h
  rw [rf_oSig, hk]; exact (rf_SB_pb (show rf_SB t o < _ by omega)).trans rf_sb_id
theorem rf_e_num {t o : rf_W} : rf_e (rf_oNum t o) = rf_e o := rf_e_pb
theorem rf_e_bl {t o : rf_W} : rf_e (rf_oBl t o) = rf_e o := rf_e_pb
theorem rf_e_pas {t o : rf_W} {k : Nat} : rf_e (rf_oPas t o k) = rf_e o := rf_e_pb
theorem rf_e_sig {t o : rf_W} {c : Nat} : rf_e (rf_oSig t o c) = rf_e o := rf_e_pb
theorem rf_b_num {t o : rf_W} (h : rf_To o) : rf_b (rf_oNum t o) = rf_SB t o := by
  obtain ⟨a, b, _, d, e, f, g⟩ := rf_S_le (t := t) h
  exact rf_b_pb (by omega)
theorem rf_b_bl {t o : rf_W} (h : rf_To o) : rf_b (rf_oBl t o) = rf_SB t o := by
  obtain ⟨a, b, _, d, e, f, g⟩ := rf_S_le (t := t) h
  exact rf_b_pb (by omega)
theorem rf_b_le {t o : rf_W} (h : rf_To o) : rf_b (rf_oLe t o) = rf_SB t o := by
  obtain ⟨a, b, _, d, e, f, g⟩ := rf_S_le (t := t) h
  exact rf_b_pb (by omega)
theorem rf_b_pas {t o : rf_W} {k : Nat} (h : rf_To o) : rf_b (rf_oPas t o k) = rf_SB t o := by
  obtain ⟨a, b, _, d, e, f, g⟩ := rf_S_le (t := t) h
  exact rf_b_pb (by omega)
theorem rf_b_sig {t o : rf_W} {c : Nat} (h : rf_To o) : rf_b (rf_oSig t o c) = rf_SB t o := by
  obtain ⟨a, b, _, d, e, f, g⟩ := rf_S_le (t := t) h
  exact rf_b_pb (by omega)
/-- the class's tape stands at the thing that the reference reads next -/
def cl_to (h : am_H) (t o : rf_W) : Prop := cl_tp h t (rf_e o) (rf_SB t o)
theorem cl_to_eq {h : am_H} {t o o' : rf_W} (K : cl_to h t o) (he : rf_e o' = rf_e o) (hb : rf_SB t o' = rf_SB t o) : cl_to h t o' := by
  rw [cl_to, he, hb]; exact K
theorem cl_tp_h {h h' : am_H} {t : rf_W} {e b : Nat} (e1 : h' 1 = h 1) (e2 : h' 2 = h 2) (K : cl_tp h t e b) : cl_tp h' t e b := by
  rw [cl_tp, e1, e2]; exact K
theorem cl_to_h {h h' : am_H} {t o : rf_W} (e1 : h' 1 = h 1) (e2 : h' 2 = h 2) (K : cl_to h t o) : cl_to h' t o := cl_tp_h e1 e2 K
theorem cl_tp_b {h : am_H} {t : rf_W} {e b : Nat} (K : cl_tp h t e b) : (h 1) 3 = nI b := K.2.2.2.2.2.1
theorem cl_to_b {h : am_H} {t o : rf_W} (K : cl_to h t o) : (h 1) 3 = nI (rf_SB t o) := K.2.2.2.2.2.1
theorem cl_to_k {h : am_H} {t o : rf_W} (K : cl_to h t o) : (h 1) 2 = nI (cl_kd t (rf_e o) (rf_SB t o)) := K.2.2.2.2.1
theorem cl_tp_k {h : am_H} {t : rf_W} {e b : Nat} (K : cl_tp h t e b) : (h 1) 2 = nI (cl_kd t e b) := K.2.2.2.2.1
theorem cl_kd_fig {t o : rf_W} : cl_kd t (rf_e o) (rf_SB t o) = 2 ↔ rf_rFig t o = true := by
  constructor
  · intro h
    rcases cl_kd_is (t := t) (e := rf_e o) (b := rf_SB t o) with ⟨a, _⟩ | ⟨_, _, a⟩ | ⟨a, _⟩ | ⟨a, _⟩
    · omega
    · exact a
    · omega
    · omega
  · intro h
    have h2 : rf_at t (rf_e o) (rf_SB t o) 48 57 = true := h
    rcases cl_kd_is (t := t) (e := rf_e o) (b := rf_SB t o) with ⟨_, a⟩ | ⟨a, _⟩ | ⟨_, _, a, _⟩ | ⟨_, _, a, _⟩
    · exact absurd (h2.symm.trans (cl_at_ex a)) (fun z => Bool.false_ne_true z.symm)
    · exact a
    all_goals exact absurd (h2.symm.trans a) (fun z => Bool.false_ne_true z.symm)
theorem cl_kd_end {t : rf_W} {e b : Nat} : cl_kd t e b = 0 ↔ e ≤ b := by
  constructor
  · intro h
    rcases cl_kd_is (t := t) (e := e) (b := b) with ⟨a, _⟩ | ⟨a, _⟩ | ⟨a, _⟩ | ⟨_, _, _, a⟩
    · omega
    · omega
    · omega
    · exact a
  · exact cl_kd_0
theorem cl_num_z {t o : rf_W} {lo : Nat} {hi : Int32} (h : rf_rFig t o = false) : rf_rNum t o lo hi = 0 := by
  have h2 : rf_at t (rf_e o) (rf_SB t o) 48 57 = false := h
  rw [rf_rNum, rf_num, if_pos (Or.inl _)]
  exact rf_run_f h2
theorem cl_fig_n {t o : rf_W} {lo : Nat} {hi : Int32} (h : rf_rNum t o lo hi ≠ 0) : rf_rFig t o = true := by
  cases q : rf_rFig t o with
  | true => rfl
  | false => exact absurd (cl_num_z q) h
theorem cl_to_v {h : am_H} {t o : rf_W} {lo : Nat} {hi : Int32} (K : cl_to h t o) (hlo : lo < 1000) (hn : rf_rNum t o lo hi ≠ 0) : (h 1) 5 = nI (rf_rNum t o lo hi - 1) := (cl_num_v K hlo hn).1
/-! the calls -/
theorem c_X8_adv_p {ad : Nat → Nat} {r : am_R} (hR : am_rs r) {h : am_H} (t o : rf_W) (K : cl_tp h t (rf_e o) (rf_b o)) (hs : cl_sp t (rf_e o) (rf_b o) = rf_p o) (hT : rf_To o) : am_CM mX8_advance 2 0 0 [.ref 1] (am_VV ad) r h (am_pr none r (fun c9 => cl_to c9 t o ∧ cl_fr h c9 1 1)) :=
  c_X8_advance hR t (rf_e o) K.1 K.2.1 K.2.2.2.1 (rf_p o) (by rw [← hs]; exact K.2.2.2.2.2.2.1) hT.2.2.1
theorem c_X8_adv_n {ad : Nat → Nat} {r : am_R} (hR : am_rs r) {h : am_H} (t o : rf_W) (K : cl_to h t o) (hT : rf_To o) (lo : Nat) (hi : Int32) (hlo : lo < 1000) (hn : rf_rNum t o lo hi ≠ 0) : am_CM mX8_advance 2 0 0 [.ref 1] (am_VV ad) r h (am_pr none r (fun c9 => cl_to c9 t (rf_oNum t o) ∧ cl_fr h c9 1 1)) := by
  have h1 := c_X8_advance (ad := ad) hR t (rf_e o) K.1 K.2.1 K.2.2.2.1 (rf_SD t o) (cl_num_v K hlo hn).2.1 (rf_S_le (t := t) hT).2.2.2.2.2.1
  rw [← rf_SB_num hT, ← rf_e_num (t := t) (o := o)] at h1
  exact h1
theorem cl_rPas_sp {t o : rf_W} {k : Nat} (hk0 : 0 < am_len k) (hk : rf_rPas t o k = true) : cl_sp t (rf_e o) (rf_SB t o) = rf_SL t o := by
  refine cl_sp_1 (Classical.byContradiction (fun z => ?_))
  exact absurd (hk.symm.trans (cl_word_1 hk0 z)) (fun y => Bool.false_ne_true y.symm)
theorem c_X8_adv_k {ad : Nat → Nat} {r : am_R} (hR : am_rs r) {h : am_H} (t o : rf_W) (K : cl_to h t o) (hT : rf_To o) (k : Nat) (hk0 : 0 < am_len k) (hk : rf_rPas t o k = true) : am_CM mX8_advance 2 0 0 [.ref 1] (am_VV ad) r h (am_pr none r (fun c9 => cl_to c9 t (rf_oPas t o k) ∧ cl_fr h c9 1 1)) := by
  have h1 := c_X8_advance (ad := ad) hR t (rf_e o) K.1 K.2.1 K.2.2.2.1 (rf_SL t o) (by rw [← cl_rPas_sp hk0 hk]; exact K.2.2.2.2.2.2.1) (rf_S_le (t := t) hT).2.2.2.1
  rw [← rf_SB_pas_t hT hk, ← rf_e_pas (t := t) (o := o) (k := k)] at h1
  exact h1
theorem c_X8_adv_s {ad : Nat → Nat} {r : am_R} (hR : am_rs r) {h : am_H} (t o : rf_W) (K : cl_to h t o) (hT : rf_To o) (c : Nat) (hc : cl_sg c) (hk : rf_rSig t o c = true) : am_CM mX8_advance 2 0 0 [.ref 1] (am_VV ad) r h (am_pr none r (fun c9 => cl_to c9 t (rf_oSig t o c) ∧ cl_fr h c9 1 1)) := by
  have h2 : cl_sp t (rf_e o) (rf_SB t o) = rf_SB t o + 1 := cl_sp_3 hc hk
  have h1 := c_X8_advance (ad := ad) hR t (rf_e o) K.1 K.2.1 K.2.2.2.1 (rf_SB t o + 1) (by rw [← h2]; exact K.2.2.2.2.2.2.1) (rf_at_lt hk)
  rw [← rf_SB_sig_t hT hk, ← rf_e_sig (t := t) (o := o) (c := c)] at h1
  exact h1
theorem c_X8_says_w {ad : Nat → Nat} {r : am_R} (hR : am_rs r) {h : am_H} (k : Nat) (t o : rf_W) (K : cl_tp h t (rf_e o) (rf_b o)) (hp : rf_p o = rf_run t (rf_e o) 97 122 (rf_b o)) (hk : k < am_TX.length) (hk0 : 0 < am_len k) : am_CM mX8_says 7 0 0 [.ref 1, .ref (am_SB + k)] (am_VV ad) r h (am_po (some (.int (am_b (rf_isW t o k)))) r h) := by
  rw [rf_isW, hp]
  exact c_X8_says hR k t (rf_e o) (rf_b o) K hk hk0
theorem c_X8_says_o {ad : Nat → Nat} {r : am_R} (hR : am_rs r) {h : am_H} (k : Nat) (t o : rf_W) (K : cl_to h t o) (hk : k < am_TX.length) (hk0 : 0 < am_len k) : am_CM mX8_says 7 0 0 [.ref 1, .ref (am_SB + k)] (am_VV ad) r h (am_po (some (.int (am_b (rf_rPas t o k)))) r h) :=
  c_X8_says hR k t (rf_e o) (rf_SB t o) K hk hk0
theorem c_X8_isNumber_o {ad : Nat → Nat} {r : am_R} (hR : am_rs r) {h : am_H} (lo : Nat) (hi : Int32) (t o : rf_W) (K : cl_to h t o) (hlo : lo < 1000) : am_CM mX8_isNumber 0 0 0 [.ref 1, .int (nI lo), .int hi] (am_VV ad) r h (am_po (some (.int (am_b (decide (rf_rNum t o lo hi ≠ 0))))) r h) :=
  c_X8_isNumber hR lo hi t (rf_e o) (rf_SB t o) K hlo
theorem c_X8_isSign_o {ad : Nat → Nat} {r : am_R} (hR : am_rs r) {h : am_H} (c : Nat) (t o : rf_W) (K : cl_to h t o) (hc : cl_sg c) : am_CM mX8_isSign 0 0 0 [.ref 1, .int (nI c)] (am_VV ad) r h (am_po (some (.int (am_b (rf_rSig t o c)))) r h) :=
  c_X8_isSign hR c t (rf_e o) (rf_SB t o) K hc
theorem c_X8_takeSign_o {ad : Nat → Nat} {r : am_R} (hR : am_rs r) {h : am_H} (sg : Nat) (t o : rf_W) (K : cl_to h t o) (hc : cl_sg sg) (hT : rf_To o) : am_CM mX8_takeSign 3 0 0 [.ref 1, .int (nI sg)] (am_VV ad) r h (am_pr (some (.int (am_b (rf_rSig t o sg)))) r (fun c9 => (rf_rSig t o sg = true → cl_to c9 t (rf_oSig t o sg)) ∧ (rf_rSig t o sg = false → c9 = h) ∧ cl_fr h c9 1 1)) := by
  have h1 := c_X8_takeSign (ad := ad) hR sg t (rf_e o) (rf_SB t o) K hc
  have e : ∀ c9, ((rf_at t (rf_e o) (rf_SB t o) sg sg = true → cl_tp c9 t (rf_e o) (rf_sb t (rf_e o) (rf_SB t o + 1))) ∧ (rf_at t (rf_e o) (rf_SB t o) sg sg = false → c9 = h) ∧ cl_fr h c9 1 1) = ((rf_rSig t o sg = true → cl_to c9 t (rf_oSig t o sg)) ∧ (rf_rSig t o sg = false → c9 = h) ∧ cl_fr h c9 1 1) := fun c9 =>
    propext ⟨fun hq => ⟨fun z => by rw [cl_to, rf_SB_sig_t hT z, rf_e_sig]; exact hq.1 z, hq.2⟩, fun hq => ⟨fun z => by have h3 := hq.1 z; rw [cl_to, rf_SB_sig_t hT z, rf_e_sig] at h3; exact h3, hq.2⟩⟩
  exact (congrArg (fun P => am_CM mX8_takeSign 3 0 0 [.ref 1, .int (nI sg)] (am_VV ad) r h (am_pr (some (.int (am_b (rf_rSig t o sg)))) r P)) (funext e)).mp h1
end TAPE2
