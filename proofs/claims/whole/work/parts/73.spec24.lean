/-! THE LAW AS THE CLASS KEEPS IT: steps with kinds (numbers, truths), and what the class's pile comes to -/
section SPEC24
/-- what a step does to the kinds on the pile: true for a truth -/
def rf_t1 : List Bool → Option (List Bool)
  | true :: r => some (true :: r)
  | _ => none
def rf_t2 (t o : Bool) : List Bool → Option (List Bool)
  | a :: b :: r => if a = t ∧ b = t then some (o :: r) else none
  | _ => none
theorem rf_t1_ok : ∀ {ts ts' : List Bool}, rf_t1 ts = some ts' → ∃ r, ts = true :: r ∧ ts' = true :: r
  | [], _, h => by rw [rf_t1] at h <;> simp_all
  | false :: _, _, h => by rw [rf_t1] at h <;> simp_all
  | true :: r, _, h => ⟨r, rfl, (Option.some.inj h).symm⟩
theorem rf_t2_ok {t o : Bool} : ∀ {ts ts' : List Bool}, rf_t2 t o ts = some ts' → ∃ r, ts = t :: t :: r ∧ ts' = o :: r
  | [], _, h => by rw [rf_t2] at h <;> simp_all
  | [_], _, h => by rw [rf_t2] at h <;> simp_all
  | a :: b :: r, _, h => by
    rw [rf_t2] at h
    split at h
    · rename_i hc
      obtain ⟨rfl, rfl⟩ := hc
      exact ⟨r, rfl, (Option.some.inj h).symm⟩
    · exact absurd h (by simp)
def rf_tst (op : Nat) (ts : List Bool) : Option (List Bool) :=
  if op ≤ 8 then some (decide (op = 7) :: ts) else if op = 12 then rf_t1 ts else if op = 9 then rf_t2 false false ts else if op = 10 ∨ op = 11 then rf_t2 false true ts else rf_t2 true true ts
def rf_tl (w : rf_W) : Nat → Nat → List Bool → Option (List Bool)
  | 0, _, ts => some ts
  | c + 1, i, ts => match rf_tst (rf_sc w i) ts with | some ts' => rf_tl w c (i + 1) ts' | none => none
/-- the law's steps have kinds that fit, and numbers told in it are small -/
def rf_Lk (w : rf_W) : Prop := 0 < rf_nat (w 4) → ∀ n, n < rf_nat (w 731) → (∀ i, rf_nat (w (732 + 4 * n + 2)) ≤ i → i < rf_nat (w (732 + 4 * n + 3)) → rf_sc w i = 8 → rf_n (w (780 + 2 * i + 1)) 1000) ∧
  (rf_nat (w (732 + 4 * n + 2)) < rf_nat (w (732 + 4 * n + 3)) → rf_tl w (rf_nat (w (732 + 4 * n + 3)) - rf_nat (w (732 + 4 * n + 2))) (rf_nat (w (732 + 4 * n + 2))) [] = some [true])
/-- the numbers are as their kinds say -/
def rf_tkd : List Int32 → List Bool → Prop
  | [], [] => True
  | x :: l, t :: ts => (t = true → x = nI 0 ∨ x = nI 1) ∧ rf_tkd l ts
  | _, _ => False
def cl_jn (op : Nat) (a b : Int32) : Int32 := if op = 1008 then a + b else if op = 1009 then (if a < b then nI 1 else nI 0) else if op = 1010 then (if b < a then nI 1 else nI 0) else if op = 1012 then a &&& b else a ||| b
def cl_av (p v : Nat → Int32) (op top : Nat) : Nat → Int32 := if op < 1008 then upd v top (if op < 1000 then nI op else p (op - 1000)) else if op = 1011 then upd v (top - 1) (nI 1 - v (top - 1)) else upd v (top - 2) (cl_jn op (v (top - 2)) (v (top - 1)))
def cl_at (op top : Nat) : Nat := if op < 1008 then top + 1 else if op = 1011 then top else top - 1
/-- the class's pile after c steps from i on -/
def cl_rn (p code v : Nat → Int32) (i : Nat) : Nat → (Nat → Int32) × Nat
  | 0 => (v, 0)
  | c + 1 => (cl_av p (cl_rn p code v i c).1 (rf_nat (code (i + c))) (cl_rn p code v i c).2, cl_at (rf_nat (code (i + c))) (cl_rn p code v i c).2)
theorem rf_evl_snoc {w : rf_W} {s : Nat} : ∀ c i l, rf_evl w s (c + 1) i l = rf_stl w s (i + c) (rf_evl w s c i l)
  | 0, i, l => rfl
  | c + 1, i, l => by
    rw [rf_evl, rf_evl_snoc c (i + 1), show i + 1 + c = i + (c + 1) by omega]
    rfl
theorem rf_tl_snoc {w : rf_W} : ∀ c i ts, rf_tl w (c + 1) i ts = (rf_tl w c i ts).bind (rf_tst (rf_sc w (i + c)))
  | 0, i, ts => by
    rw [rf_tl, rf_tl]
    show _ = rf_tst (rf_sc w i) ts
    cases rf_tst (rf_sc w i) ts <;> rfl
  | c + 1, i, ts => by
    rw [rf_tl]
    cases h : rf_tst (rf_sc w i) ts with
    | none =>
      show none = _
      rw [rf_tl, h]; rfl
    | some ts' =>
      show rf_tl w (c + 1) (i + 1) ts' = _
      rw [rf_tl_snoc c (i + 1) ts', show i + 1 + c = i + (c + 1) by omega]
      conv => rhs; rw [rf_tl, h]
theorem rf_tk9_len : ∀ {l : List Int32} {ts : List Bool}, rf_tkd l ts → l.length = ts.length
  | [], [], _ => rfl
  | _ :: l, _ :: ts, h => congrArg (· + 1) (rf_tk9_len h.2)
  | [], _ :: _, h => h.elim
  | _ :: _, [], h => h.elim
theorem cl_tr2 {x y : Int32} (hx : x = nI 0 ∨ x = nI 1) (hy : y = nI 0 ∨ y = nI 1) : x &&& y = rf_ap 13 x y ∧ x ||| y = rf_ap 14 x y := by
  rcases hx with rfl | rfl <;> rcases hy with rfl | rfl <;> decide
theorem rf_ap_tr (op : Nat) (x y : Int32) (h : op ≠ 9) : rf_ap op x y = nI 0 ∨ rf_ap op x y = nI 1 := by
  rw [rf_ap, if_neg h]
  split
  · split
    · exact Or.inr rfl
    · exact Or.inl rfl
  · split
    · split
      · exact Or.inr rfl
      · exact Or.inl rfl
    · split
      · split
        · exact Or.inr rfl
        · exact Or.inl rfl
      · split
        · exact Or.inr rfl
        · exact Or.inl rfl
/-- one step: the class's pile goes on as the reference's, and the kinds hold -/
theorem cl_step {w : rf_W} {s i top : Nat} {p v code : Nat → Int32} {l : List Int32} {ts ts' : List Bool} (hp : ∀ c, c < 8 → p c = rf_fact w c (nI 0) s) (hc : code i = cl_op w i) (h15 : rf_sc w i < 15) (h8 : rf_sc w i = 8 → rf_n (w (780 + 2 * i + 1)) 1000)
    (hv : rf_hv v l) (ht : top = l.length) (hk : rf_tkd l ts) (hst : rf_tst (rf_sc w i) ts = some ts') :
    (rf_nat (code i) < 1014 ∧ code i = nI (rf_nat (code i))) ∧ (1008 ≤ rf_nat (code i) → rf_nat (code i) = 1011 → 1 ≤ top) ∧ (1008 ≤ rf_nat (code i) → rf_nat (code i) ≠ 1011 → 2 ≤ top) ∧
    rf_hv (cl_av p v (rf_nat (code i)) top) (rf_stl w s i l) ∧ cl_at (rf_nat (code i)) top = (rf_stl w s i l).length ∧ rf_tkd (rf_stl w s i l) ts' := by
  rw [hc, cl_op]
  rw [rf_tst] at hst
  by_cases a8 : rf_sc w i ≤ 8
  · rw [if_pos a8] at hst
    obtain rfl := Option.some.inj hst
    have key : ∃ op, op < 1008 ∧ (if rf_sc w i = 8 then w (780 + 2 * i + 1) else if rf_sc w i < 8 then nI (1000 + rf_sc w i) else nI (999 + rf_sc w i)) = nI op ∧ (if op < 1000 then nI op else p (op - 1000)) = rf_fact w (rf_sc w i) (w (780 + 2 * i + 1)) s := by
      by_cases e8 : rf_sc w i = 8
      · obtain ⟨e, hlt⟩ := h8 e8
        refine ⟨rf_nat (w (780 + 2 * i + 1)), by omega, by rw [if_pos e8]; exact e, ?_⟩
        rw [if_pos hlt, rf_fact_8 (by omega)]
        exact e.symm
      · refine ⟨1000 + rf_sc w i, by omega, by rw [if_neg e8, if_pos (by omega)], ?_⟩
        rw [if_neg (by omega), Nat.add_sub_cancel_left, hp _ (by omega)]
        have : rf_sc w i < 8 := by omega
        generalize rf_sc w i = c at this
        match c, this with
        | 0, _ => rfl
        | 1, _ => rfl
        | 2, _ => rfl
        | 3, _ => rfl
        | 4, _ => rfl
        | 5, _ => rfl
        | 6, _ => rfl
        | 7, _ => rfl
    obtain ⟨op, k1, k2, k3⟩ := key
    rw [k2, rf_nat_nI (by omega)]
    refine ⟨⟨by omega, rfl⟩, fun h => absurd h (by omega), fun h => absurd h (by omega), ?_, ?_, ?_⟩
    · rw [cl_av, if_pos k1, k3, rf_stl, if_pos a8, ht]
      exact rf_hv_push hv
    · rw [cl_at, if_pos k1, rf_stl, if_pos a8, ht]; rfl
    · rw [rf_stl, if_pos a8]
      refine ⟨fun z => ?_, hk⟩
      rw [of_decide_eq_true z]
      show (if rf_sideIn w (rf_of w s 0) (rf_pl w s) = nI 1 <<< (nI s &&& 31) then nI 1 else nI 0) = nI 0 ∨ (if rf_sideIn w (rf_of w s 0) (rf_pl w s) = nI 1 <<< (nI s &&& 31) then nI 1 else nI 0) = nI 1
      split
      · exact Or.inr rfl
      · exact Or.inl rfl
  · rw [if_neg a8] at hst
    have e8 : rf_sc w i ≠ 8 := by omega
    rw [if_neg e8, if_neg (by omega), rf_nat_nI (by omega)]
    by_cases a12 : rf_sc w i = 12
    · rw [if_pos a12] at hst
      obtain ⟨r, rfl, rfl⟩ := rf_t1_ok hst
      · match l, hk with
        | x :: l, hk =>
          rw [a12]
          refine ⟨⟨by omega, rfl⟩, fun _ _ => by rw [ht, List.length_cons]; omega, fun _ z => absurd rfl z, ?_, ?_, ?_⟩
          · rw [cl_av, if_neg (by omega), if_pos rfl, rf_stl, if_neg a8, if_pos a12, ht]
            exact rf_hv_not hv (by rw [List.length_cons]; omega) rfl
          · rw [cl_at, if_neg (by omega), if_pos rfl, rf_stl, if_neg a8, if_pos a12, ht]; rfl
          · rw [rf_stl, if_neg a8, if_pos a12]
            refine ⟨fun _ => ?_, hk.2⟩
            rcases hk.1 rfl with e | e
            · show nI 1 - x = _ ∨ nI 1 - x = _
              rw [e]; exact Or.inr (by decide)
            · show nI 1 - x = _ ∨ nI 1 - x = _
              rw [e]; exact Or.inl (by decide)
    · rw [if_neg a12] at hst
      have two : ∀ (t1 t2 : Bool) (r : List Bool), ts = t1 :: t2 :: r → (t1 = t2) → (rf_sc w i = 9 → ts' = false :: r) → (rf_sc w i ≠ 9 → ts' = true :: r) → (13 ≤ rf_sc w i → t1 = true) → (rf_sc w i ≤ 12 → True) →
          (999 + rf_sc w i < 1014 ∧ nI (999 + rf_sc w i) = nI (999 + rf_sc w i)) ∧ (1008 ≤ 999 + rf_sc w i → 999 + rf_sc w i = 1011 → 1 ≤ top) ∧ (1008 ≤ 999 + rf_sc w i → 999 + rf_sc w i ≠ 1011 → 2 ≤ top) ∧ rf_hv (cl_av p v (999 + rf_sc w i) top) (rf_stl w s i l) ∧ cl_at (999 + rf_sc w i) top = (rf_stl w s i l).length ∧ rf_tkd (rf_stl w s i l) ts' := by
        rintro t1 t2 r rfl rfl h9 hn9 h13 -
        match l, hk with
        | x :: y :: l, hk =>
          have hlen : 2 ≤ (x :: y :: l).length := by rw [List.length_cons, List.length_cons]; omega
          have hx : v ((x :: y :: l).length - 1) = x := by rw [hv _ (by omega), Nat.sub_self]; rfl
          have hy : v ((x :: y :: l).length - 1 - 1) = y := by
            rw [hv _ (by omega), show (x :: y :: l).length - 1 - ((x :: y :: l).length - 1 - 1) = 1 by omega]; rfl
          have hjn : cl_jn (999 + rf_sc w i) y x = rf_ap (rf_sc w i) y x := by
            rw [cl_jn]
            by_cases q9 : rf_sc w i = 9
            · rw [if_pos (by omega), rf_ap_9 q9]
            · rw [if_neg (by omega)]
              by_cases q10 : rf_sc w i = 10
              · rw [if_pos (by omega), rf_ap_10 q10]
              · rw [if_neg (by omega)]
                by_cases q11 : rf_sc w i = 11
                · rw [if_pos (by omega), rf_ap_11 q11]
                · rw [if_neg (by omega)]
                  have ht1 := h13 (by omega)
                  have hxy := cl_tr2 (hk.2.1 ht1) (hk.1 ht1)
                  by_cases q13 : rf_sc w i = 13
                  · rw [if_pos (by omega), q13]; exact hxy.1
                  · rw [if_neg (by omega), show rf_sc w i = 14 by omega]; exact hxy.2
          refine ⟨⟨by omega, rfl⟩, fun _ z => absurd z (by omega), fun _ _ => by omega, ?_, ?_, ?_⟩
          · rw [cl_av, if_neg (by omega), if_neg (by omega), rf_stl, if_neg a8, if_neg a12, ht]
            exact rf_hv_bin (op := rf_sc w i) hv hlen (by rw [Nat.sub_sub] at hy ⊢; rw [hy, hx]; exact hjn)
          · rw [cl_at, if_neg (by omega), if_neg (by omega), rf_stl, if_neg a8, if_neg a12, ht]; rfl
          · rw [rf_stl, if_neg a8, if_neg a12]
            by_cases q9 : rf_sc w i = 9
            · rw [h9 q9]
              exact ⟨fun z => absurd z Bool.false_ne_true, hk.2.2⟩
            · rw [hn9 q9]
              exact ⟨fun _ => rf_ap_tr _ _ _ q9, hk.2.2⟩
      by_cases a9 : rf_sc w i = 9
      · rw [if_pos a9] at hst
        obtain ⟨r, e1, e2⟩ := rf_t2_ok hst
        exact two false false r e1 rfl (fun _ => e2) (fun z => absurd a9 z) (fun z => absurd z (by omega)) (fun _ => trivial)
      · rw [if_neg a9] at hst
        by_cases a10 : rf_sc w i = 10 ∨ rf_sc w i = 11
        · rw [if_pos a10] at hst
          obtain ⟨r, e1, e2⟩ := rf_t2_ok hst
          exact two false false r e1 rfl (fun z => absurd z a9) (fun _ => e2) (fun z => absurd z (by omega)) (fun _ => trivial)
        · rw [if_neg a10] at hst
          obtain ⟨r, e1, e2⟩ := rf_t2_ok hst
          exact two true true r e1 rfl (fun z => absurd z a9) (fun _ => e2) (fun _ => rfl) (fun _ => trivial)
end SPEC24
