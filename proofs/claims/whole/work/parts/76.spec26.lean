/-! WHAT THE LAW IS ASKED OF: foes and friends, the row of parts -/
section SPEC26
theorem rf_bc_set {p : Nat → Bool} {n : Nat} (hn : n ≤ 16) : rf_bc (rf_set p n) = rf_cnt p n := by
  have key : ∀ d, n + d ≤ 16 → rf_cnt (am_bt (rf_set p n)) (n + d) = rf_cnt p n := by
    intro d
    induction d with
    | zero => intro _; exact rf_cnt_congr n (fun k hk => by rw [rf_set_bt (by omega) _ (by omega), decide_eq_true hk, Bool.true_and])
    | succ d ih =>
      intro h
      rw [← Nat.add_assoc, rf_cnt, ih (by omega), rf_set_bt (by omega) _ (by omega), decide_eq_false (by omega), Bool.false_and, if_neg Bool.false_ne_true]
      rfl
  have := key (16 - n) (by omega)
  rw [show n + (16 - n) = 16 by omega] at this
  exact this
def cl_foe (w : rf_W) (s o : Nat) : Bool := !decide (o = s) && (decide (rf_pl w s = rf_pl w o) && !decide (rf_of w s 0 = rf_of w o 0))
def cl_frd (w : rf_W) (s o : Nat) : Bool := !decide (o = s) && (decide (rf_pl w s = rf_pl w o) && decide (rf_of w s 0 = rf_of w o 0))
theorem cl_foes {w : rf_W} (hI : rf_I w) {s : Nat} (hs : s < rf_S w) : nI (rf_cnt (cl_foe w s) (rf_S w)) = rf_fact w 6 (nI 0) s := by
  have hS : rf_S w < 11 := hI.1.2.1.2
  show _ = rf_pc (rf_sideIn w (nI 1 - rf_of w s 0) (rf_pl w s))
  rw [rf_sideIn, rf_pc_bc (am_lo_mono (rf_set_lo (by omega)) (by omega)), rf_bc_set (by omega)]
  refine congrArg nI (rf_cnt_congr _ (fun o ho => ?_))
  rw [cl_foe]
  have h1 := rf_side_ne hI hs ho
  by_cases e : rf_of w s 0 = rf_of w o 0
  · rw [decide_eq_true e, decide_eq_false (fun z => h1.mp z e), Bool.not_true, Bool.and_false, Bool.and_false, Bool.false_and]
  · rw [decide_eq_false e, decide_eq_true (h1.mpr e), Bool.true_and, Bool.not_false, Bool.and_true, decide_eq_false (fun z => e (by rw [z])), Bool.not_false, Bool.true_and]
    exact decide_eq_decide.mpr ⟨Eq.symm, Eq.symm⟩
theorem cl_alone {w : rf_W} (hI : rf_I w) {s : Nat} (hs : s < rf_S w) : (if rf_cnt (cl_frd w s) (rf_S w) = 0 then nI 1 else nI 0) = rf_fact w 7 (nI 0) s := by
  have hS : rf_S w < 11 := hI.1.2.1.2
  show _ = if rf_sideIn w (rf_of w s 0) (rf_pl w s) = nI 1 <<< (nI s &&& 31) then nI 1 else nI 0
  have hiff : rf_cnt (cl_frd w s) (rf_S w) = 0 ↔ rf_sideIn w (rf_of w s 0) (rf_pl w s) = nI 1 <<< (nI s &&& 31) := by
    constructor
    · intro h0
      refine am_ext (fun j hj => ?_)
      rw [rf_sideIn, rf_set_bt hj _ (by omega), am_bt_1 (by omega) hj]
      by_cases e : j = s
      · subst e; rw [decide_eq_true hs, decide_eq_true rfl, decide_eq_true rfl, decide_eq_true rfl]; rfl
      · rw [decide_eq_false e]
        by_cases hjS : j < rf_S w
        · cases hc : cl_frd w s j with
          | true => have := rf_cnt_pos' (p := cl_frd w s) (rf_S w) j hjS hc; omega
          | false =>
            rw [cl_frd, decide_eq_false e, Bool.not_false, Bool.true_and] at hc
            rw [decide_eq_true hjS, Bool.true_and, Bool.and_comm]
            rw [← hc]
            exact congr (congrArg and (decide_eq_decide.mpr ⟨Eq.symm, Eq.symm⟩)) (decide_eq_decide.mpr ⟨Eq.symm, Eq.symm⟩)
        · rw [decide_eq_false hjS, Bool.false_and]
    · intro h
      refine rf_cnt_0 _ (fun j hj => ?_)
      rw [cl_frd]
      by_cases e : j = s
      · rw [decide_eq_true e]; rfl
      · have hb := congrArg (fun x => am_bt x j) h
        simp only [rf_sideIn] at hb
        rw [rf_set_bt (by omega) _ (by omega), am_bt_1 (by omega) (by omega), decide_eq_false e, decide_eq_true hj, Bool.true_and] at hb
        rw [decide_eq_false e, Bool.not_false, Bool.true_and, Bool.and_comm]
        rw [← hb]
        exact congr (congrArg and (decide_eq_decide.mpr ⟨Eq.symm, Eq.symm⟩)) (decide_eq_decide.mpr ⟨Eq.symm, Eq.symm⟩)
  by_cases h : rf_cnt (cl_frd w s) (rf_S w) = 0
  · rw [if_pos h, if_pos (hiff.mp h)]
  · rw [if_neg h, if_neg (fun z => h (hiff.mpr z))]
theorem cl_p0 {f : Nat → Int32} {s : Nat} {a1 a2 a3 a4 a5 a6 a7 : Int32} (hs : s < 11) : rf_nat (upd (upd (upd (upd (upd (upd (upd (upd f 0 (nI s)) 1 a1) 2 a2) 3 a3) 4 a4) 5 a5) 6 a6) 7 a7 0) = s := by
  rw [rf_upd_ne (by omega), rf_upd_ne (by omega), rf_upd_ne (by omega), rf_upd_ne (by omega), rf_upd_ne (by omega), rf_upd_ne (by omega), rf_upd_ne (by omega), rf_upd_eq, rf_nat_nI (by omega)]
theorem cl_pts {w : rf_W} {f : Nat → Int32} {s : Nat} {a1 a2 a3 a4 a5 a6 a7 : Int32} (hs : s < 11) (h1 : a1 = rf_fact w 1 (nI 0) s) (h2 : a2 = rf_fact w 2 (nI 0) s) (h3 : a3 = rf_fact w 3 (nI 0) s) (h4 : a4 = rf_fact w 4 (nI 0) s) (h5 : a5 = rf_fact w 5 (nI 0) s) (h6 : a6 = rf_fact w 6 (nI 0) s) (h7 : a7 = rf_fact w 7 (nI 0) s) :
    ∀ c, c < 8 → upd (upd (upd (upd (upd (upd (upd (upd f 0 (nI s)) 1 a1) 2 a2) 3 a3) 4 a4) 5 a5) 6 a6) 7 a7 c = rf_fact w c (nI 0) (rf_nat (upd (upd (upd (upd (upd (upd (upd (upd f 0 (nI s)) 1 a1) 2 a2) 3 a3) 4 a4) 5 a5) 6 a6) 7 a7 0)) := by
  intro c hc
  rw [cl_p0 hs]
  match c, hc with
  | 0, _ => rw [rf_upd_ne (by omega), rf_upd_ne (by omega), rf_upd_ne (by omega), rf_upd_ne (by omega), rf_upd_ne (by omega), rf_upd_ne (by omega), rf_upd_ne (by omega), rf_upd_eq]; rfl
  | 1, _ => rw [rf_upd_ne (by omega), rf_upd_ne (by omega), rf_upd_ne (by omega), rf_upd_ne (by omega), rf_upd_ne (by omega), rf_upd_ne (by omega), rf_upd_eq]; exact h1
  | 2, _ => rw [rf_upd_ne (by omega), rf_upd_ne (by omega), rf_upd_ne (by omega), rf_upd_ne (by omega), rf_upd_ne (by omega), rf_upd_eq]; exact h2
  | 3, _ => rw [rf_upd_ne (by omega), rf_upd_ne (by omega), rf_upd_ne (by omega), rf_upd_ne (by omega), rf_upd_eq]; exact h3
  | 4, _ => rw [rf_upd_ne (by omega), rf_upd_ne (by omega), rf_upd_ne (by omega), rf_upd_eq]; exact h4
  | 5, _ => rw [rf_upd_ne (by omega), rf_upd_ne (by omega), rf_upd_eq]; exact h5
  | 6, _ => rw [rf_upd_ne (by omega), rf_upd_eq]; exact h6
  | 7, _ => rw [rf_upd_eq]; exact h7
/-- what the class says of a kind -/
def cl_says (w : rf_W) (kd s : Nat) : Nat := if rf_nat (w 4) = 0 then (if kd = 0 then 50 else if kd = 1 then 20 else 1) else min (rf_sayn w kd s (rf_nat (w 731))) 100
theorem cl_says_eq {w : rf_W} {kd s : Nat} (h : kd < 2) : cl_says w kd s = rf_says w kd s := by
  rw [cl_says, rf_says]
  by_cases e : rf_nat (w 4) = 0
  · rw [if_pos e, if_pos e]
  · rw [if_neg e, if_neg e, if_neg (by omega), Nat.min_comm]
theorem cl_says_2 {w : rf_W} {s : Nat} : 0 < cl_says w 2 s ↔ 0 < rf_says w 2 s := by
  rw [cl_says, rf_says]
  by_cases e : rf_nat (w 4) = 0
  · rw [if_pos e, if_pos e]
  · rw [if_neg e, if_neg e, if_pos rfl]
    omega
theorem cl_says_le {w : rf_W} {kd s : Nat} : cl_says w kd s ≤ 100 := by
  rw [cl_says]
  split
  · split
    · omega
    · split <;> omega
  · omega
end SPEC26
