/-! THE LAW: its rows -/
section LP
abbrev mLaw : am_M := (x, code, 7, ret)
/-- the claim's room, whatever its numbers are: the law makes some 3000 cells of some 90000 slots -/
def lp_MC : Nat := room_1.cells
def lp_MS : Nat := room_1.slots
theorem lp_leC {n : Nat} (h : n ≤ 600000) : n ≤ lp_MC := Nat.le_trans h (show 600000 ≤ room_1.cells by decide +kernel)
theorem lp_leS {n : Nat} (h : n ≤ 7000000) : n ≤ lp_MS := Nat.le_trans h (show 7000000 ≤ room_1.slots by decide +kernel)
/-- the script stands apart, at the cell b -/
def lp_S (X : am_X) (b L : Nat) (xs : Nat → Int32) : Prop := match X with
  | ((_, _, _, _), (s, _, _, _, _, _), (A, _), (_, _, _), _) => va_X b L xs s s.heap ∧ b < s.heap.size ∧ ¬ A b
/-- the law's end -/
def lp_E (X : am_X) (MC MS : Nat) : Prop := match X with
  | ((p, l, e, R), (s, m, args, below, meth, c), (A, Z), (_, _, _), _) => ∀ (cs : Nat × Nat) (pc : Nat) (H : Heap) (locs : List Loc) (lsA : Array Slot), cs.1 ≤ MC → cs.2 ≤ MS → (∀ q ∈ locs, A q.base) → decode code pc = .ok (.ireturn, 1) → W p l e R s m args below meth c H locs cs.1 cs.2 Z (F0 m pc lsA [.int 1])
variable {M : am_M} {D MC MS : Nat} {X : am_X} {V : am_V} {cs : Nat × Nat} {pc : Nat} {ls ls' : List (Nat × Value)} {st st0 : List Value} {r r2 : am_R} {h h2 : am_H} {ad : Nat → Nat} {n : Nat} {sh : am_Sh} {b L i : Nat} {xs : Nat → Int32}
theorem lp_ret (E : lp_E X MC MS) (hd : decode code pc = .ok (.ireturn, 1)) (h1 : cs.1 ≤ MC) (h2 : cs.2 ≤ MS) : am_G X V cs pc ls [.int 1] r h := by
  obtain ⟨⟨p, l, e, R⟩, ⟨s, m, args, below, meth, c⟩, ⟨A, Z⟩, ⟨dC, dI, dA⟩, adK⟩ := X
  intro H locs lsA hw hl
  exact E cs pc H locs lsA h1 h2 hw.2.2.1.2.2 hd
theorem lp_len (C : am_C M D MC MS X) (S : lp_S X b L xs) (hb : ad (am_SB + 50) = b) (hd : decode M.2.1 pc = .ok (.arraylength, 1)) (k : am_G X (ad, n, sh) cs (pc + 1) ls (.int (nI L) :: st) r h) : am_G X (ad, n, sh) cs pc ls (.ref (am_SB + 50) :: st) r h := by
  obtain ⟨⟨p, l, e, R⟩, ⟨s, m, args, below, meth, c⟩, ⟨A, Z⟩, ⟨dC, dI, dA⟩, adK⟩ := X
  obtain ⟨⟨hx, hbc, hml, hrt, hlk, hnm⟩, -⟩ := C
  obtain ⟨hX, hbl, hbA⟩ := S
  intro H locs lsA hw hl
  have K := k H locs lsA hw hl
  rw [List.map_cons] at K ⊢
  rw [show am_cv (ad, n, sh).1 (.ref (am_SB + 50)) = .ref b from congrArg Value.ref hb]
  exact va_slen hx hbc hX hbl hbA hw.2.2.1 hd K
theorem lp_ld (C : am_C M D MC MS X) (S : lp_S X b L xs) (hb : ad (am_SB + 50) = b) (hL : L ≤ 3072) (hd : decode M.2.1 pc = .ok (.iaload, 1)) {j : Nat} (hj : j < L) (k : am_G X (ad, n, sh) cs (pc + 1) ls (.int (xs j) :: st) r h) : am_G X (ad, n, sh) cs pc ls (.int (nI j) :: .ref (am_SB + 50) :: st) r h := by
  obtain ⟨⟨p, l, e, R⟩, ⟨s, m, args, below, meth, c⟩, ⟨A, Z⟩, ⟨dC, dI, dA⟩, adK⟩ := X
  obtain ⟨⟨hx, hbc, hml, hrt, hlk, hnm⟩, -⟩ := C
  obtain ⟨hX, hbl, hbA⟩ := S
  intro H locs lsA hw hl
  have K := k H locs lsA hw hl
  rw [List.map_cons, List.map_cons]
  rw [List.map_cons] at K
  rw [show am_cv (ad, n, sh).1 (.ref (am_SB + 50)) = .ref b from congrArg Value.ref hb]
  have e1 : (nI j).toNatClampNeg = j := nI_clamp (by omega)
  refine va_sld (i := nI j) hx hbc hX hbl hbA hw.2.2.1 (vp_in_nI hj (by omega)) hd ?_
  rw [e1]
  exact K
/-- what the law stands on -/
def lp_Cx (X : am_X) (ad : Nat → Nat) (b L : Nat) (xs : Nat → Int32) : Prop := am_C mLaw 100 lp_MC lp_MS X ∧ lp_S X b L xs ∧ ad (am_SB + 50) = b ∧ L ≤ 3072
abbrev lp_ls (i : Nat) : List (Nat × Value) := [(0, .ref (am_SB + 50)), (1, .ref 0), (2, .ref 322), (3, .ref 335), (4, .int (nI (6 * i)))]
def lp_cs (i : Nat) : Nat × Nat := (400 + 5 * i, 73000 + 30 * i)
/-- a number of the script -/
theorem lp_arg {k : Nat} (Cx : lp_Cx X ad b L xs) (hi : 6 * i + 6 ≤ L) (hk : k < 6) (d0 : decode code pc = .ok (.aload_n 0, 1)) (d1 : decode code (pc + 1) = .ok (.iload 4, 2)) (d2 : decode code (pc + 3) = .ok (.iconst (k : Int), 1)) (d3 : decode code (pc + 4) = .ok (.iadd, 1)) (d4 : decode code (pc + 5) = .ok (.iaload, 1)) (g0 : am_get ls 0 = some (.ref (am_SB + 50))) (g4 : am_get ls 4 = some (.int (nI (6 * i))))
    (K : am_G X (ad, n, sh) cs (pc + 6) ls (.int (xs (6 * i + k)) :: st) r h) : am_G X (ad, n, sh) cs pc ls st r h := by
  obtain ⟨C, S, hb, hL⟩ := Cx
  refine am_aload_n C d0 g0 ?_
  refine am_iload C d1 g4 ?_
  refine am_iconstN C d2 ?_
  refine am_iaddN C d3 ?_
  exact lp_ld C S hb hL d4 (by omega) K
/-- a truth of the script -/
theorem lp_bool {y : Int32} {o1 o2 : Int} {t1 t2 : Nat} (Cx : lp_Cx X ad b L xs) (d0 : decode code pc = .ok (.ifCond .eq o1, 3)) (h0 : (pc : Int) + o1 = (t1 : Int)) (d1 : decode code (pc + 3) = .ok (.iconst ((1 : Nat) : Int), 1)) (d2 : decode code (pc + 4) = .ok (.goto o2, 3)) (h1 : ((pc + 4 : Nat) : Int) + o2 = (t2 : Int)) (d3 : decode code t1 = .ok (.iconst ((0 : Nat) : Int), 1)) (h2 : t1 + 1 = t2)
    (K : am_G X V cs t2 ls (.int (am_b (!decide (y = 0))) :: st) r h) : am_G X V cs pc ls (.int y :: st) r h := by
  obtain ⟨C, S, hb, hL⟩ := Cx
  refine am_if_eq C d0 h0 (fun q => ?_) (fun q => ?_)
  · refine am_iconstN C d3 ?_
    rw [h2]
    rw [decide_eq_true q] at K
    exact K
  · refine am_iconstN C d1 ?_
    refine am_goto C d2 h1 ?_
    rw [decide_eq_false q] at K
    exact K
theorem lp_cV {Y : am_M} {b ci : Nat} {n d ix : Nat} {As : List Value} {x : Int32} (C : am_C M D MC MS X) (hd : decode M.2.1 pc = .ok (.invokevirtual ix, 3)) (hl : Cond.methodLink M.1.cls ix Y.1 ∈ am_GW) (hY : am_IV Y n) (hst : st0 = As.reverse ++ .ref b :: st) (hn : As.length = n) (hb : b < V.2.1) (hs : V.2.2 b = (0, ci)) (hci : ci < 13 ∧ (am_cl ci).1 = Y.1.cls) (hD : d + 1 ≤ D) (c1 : cs.1 ≤ MC) (c2 : cs.2 ≤ MS) (h8 : (st.map fun v => v.category).sum ≤ 8)
    (hct : am_CM Y d 0 0 (.ref b :: As) V r h (am_po (some (.int x)) r2 h2)) (k : ∀ (y : Int32) (c : am_H), y = x → c = h2 → am_G X V cs (pc + 3) ls (.int y :: st) r2 c) : am_G X V cs pc ls st0 r h :=
  am_callVi C hd hl hY hst hn hb hs hci hD c1 c2 h8 hct (k x h2 rfl rfl)
theorem lp_cVj {Y : am_M} {b ci : Nat} {n d ix : Nat} {As : List Value} {x : Int32} {H2 : am_H → am_H} (C : am_C M D MC MS X) (hd : decode M.2.1 pc = .ok (.invokevirtual ix, 3)) (hl : Cond.methodLink M.1.cls ix Y.1 ∈ am_GW) (hY : am_IV Y n) (hst : st0 = As.reverse ++ .ref b :: st) (hn : As.length = n) (hb : b < V.2.1) (hs : V.2.2 b = (0, ci)) (hci : ci < 13 ∧ (am_cl ci).1 = Y.1.cls) (hD : d + 1 ≤ D) (c1 : cs.1 ≤ MC) (c2 : cs.2 ≤ MS) (h8 : (st.map fun v => v.category).sum ≤ 8)
    (hct : am_CM Y d 0 0 (.ref b :: As) V r h (am_pj (some (.int x)) r2 H2)) (k : ∀ (y : Int32) (c G : am_H), y = x → c = H2 G → am_G X V cs (pc + 3) ls (.int y :: st) r2 c) : am_G X V cs pc ls st0 r h :=
  am_callV C hd hl hY hst hn hb hs hci hD c1 c2 h8 hct (fun v r' h' hq => by
    obtain ⟨e1, e2, G, e3⟩ := hq
    rw [e1, e2]
    exact k x h' G rfl e3)
theorem lp_cVr {Y : am_M} {b ci : Nat} {n d ix : Nat} {As : List Value} {x : Int32} {PP : am_H → Prop} (C : am_C M D MC MS X) (hd : decode M.2.1 pc = .ok (.invokevirtual ix, 3)) (hl : Cond.methodLink M.1.cls ix Y.1 ∈ am_GW) (hY : am_IV Y n) (hst : st0 = As.reverse ++ .ref b :: st) (hn : As.length = n) (hb : b < V.2.1) (hs : V.2.2 b = (0, ci)) (hci : ci < 13 ∧ (am_cl ci).1 = Y.1.cls) (hD : d + 1 ≤ D) (c1 : cs.1 ≤ MC) (c2 : cs.2 ≤ MS) (h8 : (st.map fun v => v.category).sum ≤ 8)
    (hct : am_CM Y d 0 0 (.ref b :: As) V r h (am_pr (some (.int x)) r2 PP)) (k : ∀ (y : Int32) (c : am_H), y = x → PP c → am_G X V cs (pc + 3) ls (.int y :: st) r2 c) : am_G X V cs pc ls st0 r h :=
  am_callV C hd hl hY hst hn hb hs hci hD c1 c2 h8 hct (fun v r' h' hq => by
    obtain ⟨e1, e2, e3⟩ := hq
    rw [e1, e2]
    exact k x h' rfl e3)
/-- a call that answers nothing -/
theorem lp_cVv {Y : am_M} {b ci : Nat} {n d ix : Nat} {As : List Value} {PP : am_H → Prop} (C : am_C M D MC MS X) (hd : decode M.2.1 pc = .ok (.invokevirtual ix, 3)) (hl : Cond.methodLink M.1.cls ix Y.1 ∈ am_GW) (hY : am_IV Y n) (hst : st0 = As.reverse ++ .ref b :: st) (hn : As.length = n) (hb : b < V.2.1) (hs : V.2.2 b = (0, ci)) (hci : ci < 13 ∧ (am_cl ci).1 = Y.1.cls) (hD : d + 1 ≤ D) (c1 : cs.1 ≤ MC) (c2 : cs.2 ≤ MS) (h8 : (st.map fun v => v.category).sum ≤ 8)
    (hct : am_CM Y d 0 0 (.ref b :: As) V r h (fun v r' h' => v = none ∧ r' = r2 ∧ PP h')) (k : ∀ c : am_H, PP c → am_G X V cs (pc + 3) ls st r2 c) : am_G X V cs pc ls st0 r h :=
  am_callV C hd hl hY hst hn hb hs hci hD c1 c2 h8 hct (fun v r' h' hq => by
    obtain ⟨e1, e2, e3⟩ := hq
    rw [e1, e2]
    exact k h' e3)
/-- a helper called -/
theorem lp_cW {Y : am_M} {hh : List (Nat × Nat × Nat × Nat)} {n d mc ms ix : Nat} {As : List Value} {c : Nat} {a : Int32} {P : am_R → am_H → Prop} {cz : Nat × Nat} (C : am_C M D MC MS X) (hd : decode M.2.1 pc = .ok (.invokestatic ix, 3)) (hl : Cond.methodLink M.1.cls ix Y.1 ∈ am_GW) (hs9 : am_sig Y n) (hcd : Cond.codeWith Y.1 Y.2.1 Y.2.2.1 Y.2.2.2 hh ∈ am_GW ∧ Cond.initialized Y.1.cls ∈ am_GW ∧ Y.2.2.1 ≤ 45) (hstat : Cond.static Y.1 ∈ am_GW) (hst : st0 = As.reverse ++ st) (hn : As.length = n)
    (hD : d + 1 ≤ D) (hz1 : cs.1 + mc ≤ cz.1) (hz2 : cs.2 + ms ≤ cz.2) (h1 : cz.1 ≤ MC) (h2 : cz.2 ≤ MS) (h8 : (st.map fun v => v.category).sum ≤ 8)
    (hct : am_WM Y hh d mc ms As V r h (ex_w c a P)) (k : ∀ (y : Int32) (r' : am_R) (h' : am_H), y = nI c → P r' h' → (c = 0 → h' 335 0 = a) → am_G X V cz (pc + 3) ls (.int y :: st) r' h') : am_G X V cs pc ls st0 r h :=
  am_callWX C hd hl hs9 hcd hstat hst hn hD (Nat.le_trans hz1 h1) (Nat.le_trans hz2 h2) h8 hct (fun v r' h' hq => by
    obtain ⟨e1, e2, e3⟩ := hq
    rw [e1]
    exact am_widen hz1 hz2 (k _ r' h' rfl e2 e3))
theorem lp_cmp (y : Int64) : lg_cmp y y = 0 := by
  unfold lg_cmp
  simp
/-- behind a helper and the reference's call: what was thrown, and what was answered, agree -/
theorem lp_tail {c : Nat} {a u : Int32} {o : Int} {ix : Nat} (Cx : lp_Cx X ad b L xs) (hR : am_rs r) (hc : c < 100)
    (d0 : decode code pc = .ok (.aload_n 2, 1)) (d1 : decode code (pc + 1) = .ok (.invokevirtual ix, 3)) (hl : Cond.methodLink x.cls ix mX12_thrown.1 ∈ am_GW) (d4 : decode code (pc + 4) = .ok (.iload 5, 2)) (d6 : decode code (pc + 6) = .ok (.if_icmp .eq 5, 3)) (d11 : decode code (pc + 11) = .ok (.iload 5, 2)) (d13 : decode code (pc + 13) = .ok (.ifCond .ne 15, 3)) (d16 : decode code (pc + 16) = .ok (.aload_n 3, 1)) (d17 : decode code (pc + 17) = .ok (.iconst ((0 : Nat) : Int), 1)) (d18 : decode code (pc + 18) = .ok (.laload, 1)) (d19 : decode code (pc + 19) = .ok (.iload 6, 2)) (d21 : decode code (pc + 21) = .ok (.i2l, 1)) (d22 : decode code (pc + 22) = .ok (.lcmp, 1)) (d23 : decode code (pc + 23) = .ok (.ifCond .eq 5, 3)) (d28 : decode code (pc + 28) = .ok (.goto o, 3)) (ho : ((pc + 28 : Nat) : Int) + o = ((2798 : Nat) : Int))
    (g2 : am_get ls 2 = some (.ref 322)) (g3 : am_get ls 3 = some (.ref 335)) (g5 : am_get ls 5 = some (.int (nI c))) (g6 : am_get ls 6 = some (.int u)) (h1 : cs.1 ≤ lp_MC) (h2 : cs.2 ≤ lp_MS) (et : (h 322) 0 = nI c) (ea : c = 0 → h 335 0 = u)
    (K : am_G X (am_VV ad) cs 2798 ls [] r h) : am_G X (am_VV ad) cs pc ls [] r h := by
  obtain ⟨C, S, hb, hL⟩ := Cx
  refine am_aload_n C d0 g2 ?_
  refine lp_cV (Y := mX12_thrown) (st := []) (As := []) C d1 hl v_X12_thrown rfl rfl bn_322 sh_322 ⟨by decide, rfl⟩ (by decide) h1 h2 (Nat.zero_le _) (c_X12_thrown hR) (fun y h9 ey eh => ?_)
  subst ey
  subst eh
  refine am_iload C d4 g5 ?_
  refine am_icmp_eq (tgt := pc + 11) C d6 (by omega) (fun _ => ?_) (fun q => absurd et q)
  refine am_iload C d11 g5 ?_
  refine am_if_neN (tgt := pc + 28) C d13 (by omega) (by omega) (fun _ => ?_) (fun q => ?_)
  · exact am_goto C d28 ho K
  · refine am_aload_n C d16 g3 ?_
    refine am_iconstN C d17 ?_
    refine am_laload C d18 bn_335 sh_335 (vp_in_nI (by omega) (by omega)) ?_
    rw [nI_clamp (by omega), ea q]
    refine am_iload C d19 g6 ?_
    refine am_i2l C d21 ?_
    refine am_lcmp C d22 ?_
    rw [lp_cmp]
    refine am_if_eq (tgt := pc + 28) C d23 (by omega) (fun _ => ?_) (fun z => absurd rfl z)
    exact am_goto C d28 ho K
end LP
