/-! THE LAW over a world, the shots, the readings, an hour -/
section SPEC6
def am_pj (v : Option Value) (r2 : am_R) (H2 : am_H → am_H) : Option Value → am_R → am_H → Prop := fun a b c => a = v ∧ b = r2 ∧ ∃ G : am_H, c = H2 G
section
variable {M : am_M} {D MC MS : Nat} {X : am_X} {V : am_V} {cs : Nat × Nat} {pc : Nat} {ls ls' : List (Nat × Value)} {st st0 : List Value} {r r2 : am_R} {h : am_H} {H2 : am_H → am_H}
theorem am_iretij {mc ms : Nat} {x y : Int32} {G : am_H} (T : am_T M X V mc ms (am_pj (some (.int y)) r2 H2)) (hd : decode M.2.1 pc = .ok (.ireturn, 1)) (hr : M.2.2.2 = some .int) (h1 : cs.1 ≤ mc) (h2' : cs.2 ≤ ms) (e : x = y) (er : r = r2) (eh : h = H2 G) : am_G X V cs pc ls [.int x] r h := am_iret T hd hr rfl h1 h2' ⟨by rw [e], er, G, eh⟩
theorem am_iretbj {mc ms : Nat} {x : Int32} {b : Bool} {G : am_H} (T : am_T M X V mc ms (am_pj (some (.int (am_b b))) r2 H2)) (hd : decode M.2.1 pc = .ok (.ireturn, 1)) (hr : M.2.2.2 = some .boolean) (h1 : cs.1 ≤ mc) (h2' : cs.2 ≤ ms) (e : x = am_b b) (er : r = r2) (eh : h = H2 G) : am_G X V cs pc ls [.int x] r h := am_iret T hd hr (by rw [e]; exact am_b_nar b) h1 h2' ⟨by rw [e], er, G, eh⟩
theorem am_vretvj {mc ms : Nat} {G : am_H} (T : am_T M X V mc ms (am_pj none r2 H2)) (hd : decode M.2.1 pc = .ok (.return_, 1)) (hr : M.2.2.2 = none) (h1 : cs.1 ≤ mc) (h2' : cs.2 ≤ ms) (er : r = r2) (eh : h = H2 G) : am_G X V cs pc ls [] r h := am_vret T hd hr h1 h2' ⟨rfl, er, G, eh⟩
theorem am_callVij {Y : am_M} {b ci : Nat} {n d ix : Nat} {As : List Value} {x : Int32} (C : am_C M D MC MS X) (hd : decode M.2.1 pc = .ok (.invokevirtual ix, 3)) (hl : Cond.methodLink M.1.cls ix Y.1 ∈ am_GW) (hY : am_IV Y n) (hst : st0 = As.reverse ++ .ref b :: st) (hn : As.length = n) (hb : b < V.2.1) (hs : V.2.2 b = (0, ci)) (hci : ci < 13 ∧ (am_cl ci).1 = Y.1.cls) (hD : d + 1 ≤ D) (c1 : cs.1 ≤ MC) (c2 : cs.2 ≤ MS) (h8 : (st.map fun v => v.category).sum ≤ 8)
    (hct : am_CM Y d 0 0 (.ref b :: As) V r h (am_pj (some (.int x)) r2 H2)) (k : ∀ G : am_H, am_G X V cs (pc + 3) ls (.int x :: st) r2 (H2 G)) : am_G X V cs pc ls st0 r h :=
  am_callV C hd hl hY hst hn hb hs hci hD c1 c2 h8 hct (fun v r' h' hq => by obtain ⟨rfl, rfl, G, rfl⟩ := hq; exact k G)
theorem am_callVvj {Y : am_M} {b ci : Nat} {n d ix : Nat} {As : List Value} (C : am_C M D MC MS X) (hd : decode M.2.1 pc = .ok (.invokevirtual ix, 3)) (hl : Cond.methodLink M.1.cls ix Y.1 ∈ am_GW) (hY : am_IV Y n) (hst : st0 = As.reverse ++ .ref b :: st) (hn : As.length = n) (hb : b < V.2.1) (hs : V.2.2 b = (0, ci)) (hci : ci < 13 ∧ (am_cl ci).1 = Y.1.cls) (hD : d + 1 ≤ D) (c1 : cs.1 ≤ MC) (c2 : cs.2 ≤ MS) (h8 : (st.map fun v => v.category).sum ≤ 8)
    (hct : am_CM Y d 0 0 (.ref b :: As) V r h (am_pj none r2 H2)) (k : ∀ G : am_H, am_G X V cs (pc + 3) ls st r2 (H2 G)) : am_G X V cs pc ls st0 r h :=
  am_callV C hd hl hY hst hn hb hs hci hD c1 c2 h8 hct (fun v r' h' hq => by obtain ⟨rfl, rfl, G, rfl⟩ := hq; exact k G)
end
def rf_fact (w : rf_W) (c : Nat) (n : Int32) (s : Nat) : Int32 := match c with
  | 0 => nI s
  | 1 => rf_of w s 0
  | 2 => rf_pl w s
  | 3 => w 5
  | 4 => rf_of w s 9
  | 5 => rf_pc (rf_use w s)
  | 6 => rf_pc (rf_sideIn w (nI 1 - rf_of w s 0) (rf_pl w s))
  | 7 => if rf_sideIn w (rf_of w s 0) (rf_pl w s) = nI 1 <<< (nI s &&& 31) then nI 1 else nI 0
  | _ => n
theorem rf_fact_8 {w : rf_W} {c : Nat} {n : Int32} {s : Nat} (h : 8 ≤ c) : rf_fact w c n s = n := by
  obtain ⟨k, rfl⟩ : ∃ k, c = k + 8 := ⟨c - 8, by omega⟩
  rfl
def rf_ap (op : Nat) (a b : Int32) : Int32 := if op = 9 then a + b else if op = 10 then (if a < b then nI 1 else nI 0) else if op = 11 then (if b < a then nI 1 else nI 0) else if op = 13 then (if a + b = nI 2 then nI 1 else nI 0) else (if 0 < a + b then nI 1 else nI 0)
theorem rf_ap_9 {op : Nat} {a b : Int32} (h : op = 9) : rf_ap op a b = a + b := by subst h; rfl
theorem rf_ap_10 {op : Nat} {a b : Int32} (h : op = 10) : rf_ap op a b = if a < b then nI 1 else nI 0 := by subst h; rfl
theorem rf_ap_11 {op : Nat} {a b : Int32} (h : op = 11) : rf_ap op a b = if b < a then nI 1 else nI 0 := by subst h; rfl
theorem rf_ap_13 {op : Nat} {a b : Int32} (h : op = 13) : rf_ap op a b = if a + b = nI 2 then nI 1 else nI 0 := by subst h; rfl
theorem rf_ap_14 {op : Nat} {a b : Int32} (h1 : op ≠ 9) (h2 : op ≠ 10) (h3 : op ≠ 11) (h4 : op ≠ 13) : rf_ap op a b = if 0 < a + b then nI 1 else nI 0 := by rw [rf_ap, if_neg h1, if_neg h2, if_neg h3, if_neg h4]
def rf_sc (w : rf_W) (i : Nat) : Nat := rf_nat (w (780 + 2 * i))
def rf_stl (w : rf_W) (s i : Nat) (l : List Int32) : List Int32 :=
  if rf_sc w i ≤ 8 then rf_fact w (rf_sc w i) (w (780 + 2 * i + 1)) s :: l
  else if rf_sc w i = 12 then (nI 1 - l.getD 0 0) :: l.drop 1
  else rf_ap (rf_sc w i) (l.getD 1 0) (l.getD 0 0) :: l.drop 2
def rf_evl (w : rf_W) (s : Nat) : Nat → Nat → List Int32 → List Int32
  | 0, _, l => l
  | c + 1, i, l => rf_evl w s c (i + 1) (rf_stl w s i l)
/-- the steps from i on, c of them, go through with t numbers on the pile, and at most 39 *)-/
def rf_okc (w : rf_W) : Nat → Nat → Nat → Prop
  | 0, _, _ => True
  | c + 1, i, t => rf_n (w (780 + 2 * i)) 15 ∧ (rf_sc w i ≤ 8 → t < 39 ∧ rf_okc w c (i + 1) (t + 1)) ∧ (8 < rf_sc w i → rf_sc w i = 12 → 1 ≤ t ∧ rf_okc w c (i + 1) t) ∧ (8 < rf_sc w i → rf_sc w i ≠ 12 → 2 ≤ t ∧ rf_okc w c (i + 1) (t - 1))
def rf_holds (w : rf_W) (line s : Nat) : Bool :=
  decide ((rf_evl w s (rf_nat (w (732 + 4 * line + 3)) - rf_nat (w (732 + 4 * line + 2))) (rf_nat (w (732 + 4 * line + 2))) []).length = 0) || decide ((rf_evl w s (rf_nat (w (732 + 4 * line + 3)) - rf_nat (w (732 + 4 * line + 2))) (rf_nat (w (732 + 4 * line + 2))) []).getD ((rf_evl w s (rf_nat (w (732 + 4 * line + 3)) - rf_nat (w (732 + 4 * line + 2))) (rf_nat (w (732 + 4 * line + 2))) []).length - 1) 0 = nI 1)
def rf_Ll (w : rf_W) (n : Nat) : Prop := rf_n (w (732 + 4 * n)) 3 ∧ rf_n (w (732 + 4 * n + 1)) 1000 ∧ rf_n (w (732 + 4 * n + 2)) 401 ∧ rf_n (w (732 + 4 * n + 3)) 401 ∧ rf_nat (w (732 + 4 * n + 2)) ≤ rf_nat (w (732 + 4 * n + 3)) ∧ rf_okc w (rf_nat (w (732 + 4 * n + 3)) - rf_nat (w (732 + 4 * n + 2))) (rf_nat (w (732 + 4 * n + 2))) 0
def rf_Lw (w : rf_W) : Prop := 0 < rf_nat (w 4) → rf_n (w 731) 13 ∧ ∀ n, n < rf_nat (w 731) → rf_Ll w n
/-- a pile of numbers in a row -/
def rf_hv (v : rf_W) (l : List Int32) : Prop := ∀ k, k < l.length → v k = l.getD (l.length - 1 - k) 0
theorem rf_hv_push {v : rf_W} {l : List Int32} {x : Int32} (h : rf_hv v l) : rf_hv (upd v l.length x) (x :: l) := by
  intro k hk
  rw [List.length_cons] at hk ⊢
  by_cases e : k = l.length
  · subst e; rw [rf_upd_eq]; simp
  · rw [rf_upd_ne e, h k (by omega), show l.length + 1 - 1 - k = (l.length - 1 - k) + 1 by omega]; simp
theorem rf_hv_not {v : rf_W} {l : List Int32} {x : Int32} (h : rf_hv v l) (hl : 1 ≤ l.length) (hx : x = nI 1 - v (l.length - 1)) : rf_hv (upd v (l.length - 1) x) ((nI 1 - l.getD 0 0) :: l.drop 1) := by
  intro k hk
  have hlen : ((nI 1 - l.getD 0 0) :: l.drop 1).length = l.length := by simp; omega
  rw [hlen] at hk ⊢
  by_cases e : k = l.length - 1
  · subst e; rw [rf_upd_eq, hx, h _ (by omega)]; simp
  · rw [rf_upd_ne e, h k hk, show l.length - 1 - k = (l.length - 1 - 1 - k) + 1 by omega]
    generalize l.length - 1 - 1 - k = n
    cases l with
    | nil => exact absurd hl (by simp)
    | cons a r => rfl
theorem rf_hv_bin {v : rf_W} {l : List Int32} {x : Int32} {op : Nat} (h : rf_hv v l) (hl : 2 ≤ l.length) (hx : x = rf_ap op (v (l.length - 1 - 1)) (v (l.length - 1))) : rf_hv (upd v (l.length - 1 - 1) x) (rf_ap op (l.getD 1 0) (l.getD 0 0) :: l.drop 2) := by
  intro k hk
  have hlen : (rf_ap op (l.getD 1 0) (l.getD 0 0) :: l.drop 2).length = l.length - 1 := by simp; omega
  rw [hlen] at hk ⊢
  by_cases e : k = l.length - 1 - 1
  · subst e
    rw [rf_upd_eq, hx, h _ (by omega), h _ (by omega), show l.length - 1 - (l.length - 1 - 1) = 1 by omega, show l.length - 1 - (l.length - 1) = 0 by omega]
    simp
  · rw [rf_upd_ne e, h k (by omega), show l.length - 1 - 1 - k = (l.length - 1 - 1 - 1 - k) + 1 by omega, show l.length - 1 - k = (l.length - 1 - 1 - 1 - k) + 2 by omega]
    generalize l.length - 1 - 1 - 1 - k = n
    match l, hl with
    | [], hl => exact absurd hl (by simp)
    | [a], hl => exact absurd hl (by simp)
    | a :: b :: r, _ => rfl
def rf_sayn (w : rf_W) (what s : Nat) : Nat → Nat
  | 0 => 0
  | n + 1 => rf_sayn w what s n + (if rf_nat (w (732 + 4 * n)) = what ∧ rf_holds w n s = true then rf_nat (w (732 + 4 * n + 1)) else 0)
def rf_says (w : rf_W) (what s : Nat) : Nat := if rf_nat (w 4) = 0 then (if what = 0 then 50 else if what = 1 then 20 else 1) else min (if what = 2 then 1 else 100) (rf_sayn w what s (rf_nat (w 731)))
theorem rf_min_N {a b : Nat} (ha : a < 2147483648) (hb : b < 2147483648) : rf_min (nI a) (nI b) = nI (min a b) := by
  rw [rf_min]
  by_cases hc : a ≤ b
  · rw [if_pos ((nI_leI ha hb).mpr hc), Nat.min_eq_left hc]
  · rw [if_neg (fun z => hc ((nI_leI ha hb).mp z)), Nat.min_eq_right (by omega)]
theorem rf_max_N {a b : Nat} (ha : a < 2147483648) (hb : b < 2147483648) : rf_max (nI a) (nI b) = nI (max a b) := by
  rw [rf_max]
  by_cases hc : a < b
  · rw [if_pos ((nI_ltI ha hb).mpr hc), Nat.max_eq_right (by omega)]
  · rw [if_neg (fun z => hc ((nI_ltI ha hb).mp z)), Nat.max_eq_left (by omega)]
def rf_shoot (w : rf_W) (s : Nat) : rf_W :=
  if rf_target w s = 0 then w
  else if rf_dr w % 100 < rf_says (rf_draw w) 0 s then rf_hit (rf_draw (rf_draw w)) s (rf_target w s - 1) (decide (rf_dr (rf_draw w) % 100 < rf_says (rf_draw (rf_draw w)) 1 s))
  else rf_draw w
def rf_goon (w : rf_W) : Nat → rf_W
  | 0 => w
  | s + 1 => upd (rf_goon w s) (61 + 23 * s + 1) (nI ((rf_ofn (rf_goon w s) s 1 + 1) % rf_ofn (rf_goon w s) s 2))
def rf_shs (w : rf_W) : Nat → rf_W
  | 0 => w
  | s + 1 => rf_shoot (rf_shs w s) s
def rf_rds (w : rf_W) : Nat → rf_W
  | 0 => w
  | s + 1 => if ¬ rf_of (rf_rds w s) s 22 = 0 ∧ rf_says (rf_rds w s) 2 s = 1 then (rf_read (rf_rds w s) s).1 else rf_rds w s
def rf_hour (w : rf_W) : rf_W := upd (rf_rds (rf_shs (rf_goon w (rf_S w)) (rf_S w)) (rf_S w)) 5 (rf_rds (rf_shs (rf_goon w (rf_S w)) (rf_S w)) (rf_S w) 5 + nI 1)
end SPEC6
