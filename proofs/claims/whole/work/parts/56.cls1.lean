/-! THE CLASS: its cells beside the reference's world; answers over a heap of which something is said; copies of rows -/
section CLS1
def am_pr (v : Option Value) (r2 : am_R) (P : am_H → Prop) : Option Value → am_R → am_H → Prop := fun a b c => a = v ∧ b = r2 ∧ P c
section
variable {M : am_M} {D MC MS : Nat} {X : am_X} {V : am_V} {cs : Nat × Nat} {pc : Nat} {ls ls' : List (Nat × Value)} {st st0 : List Value} {r r2 : am_R} {h : am_H} {PP : am_H → Prop}
theorem am_iretir {mc ms : Nat} {x y : Int32} (T : am_T M X V mc ms (am_pr (some (.int y)) r2 PP)) (hd : decode M.2.1 pc = .ok (.ireturn, 1)) (hr : M.2.2.2 = some .int) (h1 : cs.1 ≤ mc) (h2' : cs.2 ≤ ms) (e : x = y) (er : r = r2) (hp : PP h) : am_G X V cs pc ls [.int x] r h := am_iret T hd hr rfl h1 h2' ⟨by rw [e], er, hp⟩
theorem am_iretbr {mc ms : Nat} {x : Int32} {b : Bool} (T : am_T M X V mc ms (am_pr (some (.int (am_b b))) r2 PP)) (hd : decode M.2.1 pc = .ok (.ireturn, 1)) (hr : M.2.2.2 = some .boolean) (h1 : cs.1 ≤ mc) (h2' : cs.2 ≤ ms) (e : x = am_b b) (er : r = r2) (hp : PP h) : am_G X V cs pc ls [.int x] r h := am_iret T hd hr (by rw [e]; exact am_b_nar b) h1 h2' ⟨by rw [e], er, hp⟩
theorem am_vretvr {mc ms : Nat} (T : am_T M X V mc ms (am_pr none r2 PP)) (hd : decode M.2.1 pc = .ok (.return_, 1)) (hr : M.2.2.2 = none) (h1 : cs.1 ≤ mc) (h2' : cs.2 ≤ ms) (er : r = r2) (hp : PP h) : am_G X V cs pc ls [] r h := am_vret T hd hr h1 h2' ⟨rfl, er, hp⟩
theorem am_callVir {Y : am_M} {b ci : Nat} {n d ix : Nat} {As : List Value} {x : Int32} (C : am_C M D MC MS X) (hd : decode M.2.1 pc = .ok (.invokevirtual ix, 3)) (hl : Cond.methodLink M.1.cls ix Y.1 ∈ am_GW) (hY : am_IV Y n) (hst : st0 = As.reverse ++ .ref b :: st) (hn : As.length = n) (hb : b < V.2.1) (hs : V.2.2 b = (0, ci)) (hci : ci < 13 ∧ (am_cl ci).1 = Y.1.cls) (hD : d + 1 ≤ D) (c1 : cs.1 ≤ MC) (c2 : cs.2 ≤ MS) (h8 : (st.map fun v => v.category).sum ≤ 8)
    (hct : am_CM Y d 0 0 (.ref b :: As) V r h (am_pr (some (.int x)) r2 PP)) (k : ∀ G : am_H, PP G → am_G X V cs (pc + 3) ls (.int x :: st) r2 G) : am_G X V cs pc ls st0 r h :=
  am_callV C hd hl hY hst hn hb hs hci hD c1 c2 h8 hct (fun v r' h' hq => by obtain ⟨rfl, rfl, hp⟩ := hq; exact k h' hp)
theorem am_callVvr {Y : am_M} {b ci : Nat} {n d ix : Nat} {As : List Value} (C : am_C M D MC MS X) (hd : decode M.2.1 pc = .ok (.invokevirtual ix, 3)) (hl : Cond.methodLink M.1.cls ix Y.1 ∈ am_GW) (hY : am_IV Y n) (hst : st0 = As.reverse ++ .ref b :: st) (hn : As.length = n) (hb : b < V.2.1) (hs : V.2.2 b = (0, ci)) (hci : ci < 13 ∧ (am_cl ci).1 = Y.1.cls) (hD : d + 1 ≤ D) (c1 : cs.1 ≤ MC) (c2 : cs.2 ≤ MS) (h8 : (st.map fun v => v.category).sum ≤ 8)
    (hct : am_CM Y d 0 0 (.ref b :: As) V r h (am_pr none r2 PP)) (k : ∀ G : am_H, PP G → am_G X V cs (pc + 3) ls st r2 G) : am_G X V cs pc ls st0 r h :=
  am_callV C hd hl hY hst hn hb hs hci hD c1 c2 h8 hct (fun v r' h' hq => by obtain ⟨rfl, rfl, hp⟩ := hq; exact k h' hp)
/-- System.arraycopy over rows of ints -/
theorem am_copyi {ix i j n0 n1 sp dp n : Nat} (C : am_C M D MC MS X) (hd : decode M.2.1 pc = .ok (.invokestatic ix, 3)) (hl : Cond.methodLink M.1.cls ix arraycopyName ∈ am_GW) (hi : i < V.2.1) (hs : V.2.2 i = (1, n0)) (hj : j < V.2.1) (hsj : V.2.2 j = (1, n1)) (h0 : sp + n ≤ n0) (h1 : dp + n ≤ n1) (hb0 : n0 < 2147483648) (hb1 : n1 < 2147483648) (hD : 1 ≤ D) (h8 : (st.map fun v => v.category).sum ≤ 8)
    (kk : am_G X V cs (pc + 3) ls st r (am_row h j (va_cpy (h i) (h j) sp dp n))) : am_G X V cs pc ls (.int (nI n) :: .int (nI dp) :: .ref j :: .int (nI sp) :: .ref i :: st) r h := by
  obtain ⟨⟨p, l, e, R⟩, ⟨s, m, args, below, meth, c⟩, ⟨A, Z⟩, ⟨dC, dI, dA⟩, adK⟩ := X
  obtain ⟨⟨hx, hb, hml, hrt, hlk, hnm⟩, ⟨hown, hts, htr, hK⟩, ⟨hA, hE⟩, hDf, hDl, hMC, hMS⟩ := C
  intro H locs lsA hw hloc
  have hw0 := hw
  obtain ⟨hP, hDj, hS, hstr⟩ := hw0
  have good : ∀ w ∈ am_GW, w.before args s = true := fun w h => hts w (List.mem_cons_of_mem _ h)
  have he0 := am_ws_at (dA := dA) (r := r) (h := h) hi
  rw [hs, am_en1] at he0
  have he1 := am_ws_at (dA := dA) (r := r) (h := h) hj
  rw [hsj, am_en1] at he1
  have pos : ∀ k : Nat, k < 2147483648 → ¬ nI k < 0 := fun k hk => nI_pos hk
  have c0 : (nI sp).toNatClampNeg = sp := nI_clamp (by omega)
  have c1 : (nI dp).toNatClampNeg = dp := nI_clamp (by omega)
  have c2 : (nI n).toNatClampNeg = n := nI_clamp (by omega)
  refine va_copyi (D := (dC, dI)) hx hb hloc.1.symm hown (good _ hl) (good _ (am_mem 735 (by decide +kernel) rfl)) (good _ (am_mem 734 (by decide +kernel) rfl)) (good _ (am_mem 154 (by decide +kernel) rfl)) hK hP (am_D hDj) hS i j 1 1 he0 he1 rfl rfl rfl (pos _ (by omega)) (pos _ (by omega)) (pos _ (by omega)) (by rw [c0, c2]; exact h0) (by rw [c1, c2]; exact h1) (fun _ _ => rfl) (by omega) ?_ hd ?_
  · have e8 : ((st.map (am_cv V.1)).map fun v => v.category).sum ≤ 8 := by rw [am_cats]; exact h8
    have e9 : nativeFrameWords "java/lang/System" "arraycopy" 5 + 11 ≤ 50 := by decide
    omega
  · intro H1 locs1 hP1 _ hS1
    rw [c0, c1, c2] at hP1
    refine kk H1 locs1 lsA (am_w_at (i := j) hw ?_ (fun a ha => ?_) hP1 hS1) hloc
    · rw [hsj, am_en1]
      exact congrArg (fun z => (Sum.inl (dA 1, n1, Sum.inl z) : va_E)) (show am_row h j (va_cpy (h i) (h j) sp dp n) j = va_cpy (h i) (h j) sp dp n from by simp [am_row])
    · rw [am_row_ne _ _ _ ha]
end
end CLS1
