/-! THE LAW'S HELPERS: static methods that call the class and turn what it throws into a number -/
section WRAP
/-- the helper's answer: the code; what was answered lies in the law's row -/
abbrev ex_w (c : Nat) (a : Int32) (P : am_R → am_H → Prop) : Option Value → am_R → am_H → Prop := fun v r h => v = some (.int (nI c)) ∧ P r h ∧ (c = 0 → h 335 0 = a)
def am_wh (Y : am_M) (hh : List (Nat × Nat × Nat × Nat)) : List Cond := .codeWith Y.1 Y.2.1 Y.2.2.1 Y.2.2.2 hh :: am_GW
def am_WM (Y : am_M) (hh : List (Nat × Nat × Nat × Nat)) (d mc ms : Nat) (as : List Value) (V : am_V) (r : am_R) (h : am_H) (Q : Option Value → am_R → am_H → Prop) : Prop :=
  ∀ (l : Launch), l.stackTraces = false → ∀ (dC : Nat → ClassId) (dI : Nat → Nat → Nat) (dA : Nat → ClassId) (adK : Nat → Nat) (sz : Nat),
    vx_Met l Y.1 (am_wh Y hh) (am_rm d mc ms) (va_Pc (as.map (am_cv V.1)) (am_Pre dC dI dA adK V sz r h)) (am_Post dC dI dA V sz Q) (am_XPost dC dI dA V sz (fun _ _ _ => False)) mc ms (am_A V sz)
/-- what a running helper stands on -/
def am_C0 (M : am_M) (hh : List (Nat × Nat × Nat × Nat)) (D MC MS : Nat) (X : am_X) : Prop := match X with
  | ((p, l, e, R), (s, m, args, below, meth, c), (A, Z), (dC, dI, dA), adK) =>
    (p.tables.exec = Jvm.exec ∧ c.code = M.2.1 ∧ c.maxLocals = M.2.2.1 ∧ meth.sig.returnType = M.2.2.2 ∧ meth.locks = false ∧ c.exceptionTable.toList = tableOf hh) ∧
    (s.vm.findClass M.1.cls = some m.cls ∧ (∀ w ∈ am_GW, w.before args s = true) ∧ l.stackTraces = false ∧ va_K (dC, dI) vwCl (am_ty dA) s) ∧
    ((∀ q, s.heap.size ≤ q → A q) ∧ am_E adK A s s.heap) ∧ D ≤ R.frames ∧ 64 * D ≤ R.locals ∧ R.cells = MC ∧ R.slots = MS
theorem am_WM.of {Y : am_M} {hh : List (Nat × Nat × Nat × Nat)} {d mc ms : Nat} {as : List Value} {V : am_V} {r : am_R} {h : am_H} {Q : Option Value → am_R → am_H → Prop} (hn : plainName Y.1.cls = true) (hlen : (lg_sl as).length ≤ Y.2.2.1)
    (body : ∀ X : am_X, am_C0 Y hh d mc ms X → am_T Y X V mc ms Q → am_G X V (0, 0) 0 (lv_args 0 as) [] r h) : am_WM Y hh d mc ms as V r h Q := by
  intro l hl dC dI dA adK sz
  refine vx_ofWH (cc := Y.2.1) (maxL := Y.2.2.1) (ret := Y.2.2.2) (hh := hh) hn rfl ?_
  intro p e s m args below meth c s₁ B hml hv
  obtain ⟨rfl, hsz, hP, hK, hD0, hE, hstr⟩ := hv
  have hD : am_Dj (am_A V sz) V := ⟨hD0.1, fun i hi => Or.inl ⟨i, hi, rfl⟩⟩
  have hA : ∀ q, s.heap.size ≤ q → am_A V sz q := fun q hq => Or.inr (by omega)
  have hS : va_S (am_A V sz) s.heap s.heap [] := va_S.rf
  have hloc := lv_entry (as.map (am_cv V.1)) (n := Y.2.2.1) (by rw [am_slots]; exact hlen)
  rw [lg_entry_eq]
  generalize (lg_sl (as.map (am_cv V.1)) ++ List.replicate (Y.2.2.1 - (lg_sl (as.map (am_cv V.1))).length) Slot.unset).toArray = ls at hloc ⊢
  rw [am_largs] at hloc
  have hts : ∀ w ∈ am_wh Y hh, w.before (as.map (am_cv V.1)).toArray s = true := atoms_spec (ws := am_wh Y hh) B.pre
  have K := body ((p, l, e, (headSpec (am_wh Y hh) (am_rm d mc ms)).room), (s, m, (as.map (am_cv V.1)).toArray, below, meth, c), (am_A V sz, vx_MQ below (am_Post dC dI dA V sz Q) (am_XPost dC dI dA V sz (fun _ _ _ => False)) (as.map (am_cv V.1)).toArray s mc ms (am_A V sz)), (dC, dI, dA), adK)
    ⟨⟨B.exec, B.bytes, hml, B.returns, B.notSynchronized, vx_table (x := Y.1) B (hts _ List.mem_cons_self)⟩, ⟨findClass_of_methodNamed B.named, fun w hw => hts w (List.mem_cons_of_mem _ hw), hl, hK⟩, ⟨hA, hE⟩, Nat.le_refl d, Nat.le_refl (64 * d), rfl, rfl⟩ ?_
  · exact K s.heap [] ls ⟨hP, hD, hS, hstr⟩ (by rw [hml]; exact hloc)
  · intro v r' h' hq cs pc H locs lsA hc1 hc2 hdec hw
    obtain ⟨hP1, hD1, hS1, -⟩ := hw
    have hst : ∀ t : State, t.heap = H → am_Post dC dI dA V sz Q (as.map (am_cv V.1)).toArray s (.returned (v.map (am_cv V.1))) t := fun t ht => ⟨⟨v, r', h', rfl, hq, by rw [ht]; exact hP1⟩, hS1.F ht⟩
    refine W.widen hc1 hc2 (vx_ret ?_)
    rcases hdec with ⟨x, ty, rfl, hd, hrt, hnar⟩ | ⟨rfl, hd, hrt⟩
    · exact W.zret B.exec B.bytes (B.returns.trans hrt) hnar (fun t ht _ => hst t ht) hS1.2.2 hd B.notSynchronized
    · exact W.vret B.exec B.bytes (B.returns.trans hrt) (fun t ht _ => hst t ht) hS1.2.2 hd B.notSynchronized
variable {M : am_M} {hh : List (Nat × Nat × Nat × Nat)} {D MC MS : Nat} {X : am_X} {V : am_V} {cs : Nat × Nat} {pc : Nat} {ls : List (Nat × Value)} {st st0 : List Value} {r : am_R} {h : am_H}
theorem w0_aload {i : Nat} {x : Nat} (C : am_C0 M hh D MC MS X) (hd : decode M.2.1 pc = .ok (.aload i, 2)) (hg : am_get ls i = some (.ref x)) (k : am_G X V cs (pc + 2) ls (.ref x :: st) r h) : am_G X V cs pc ls (st) r h := by
  obtain ⟨⟨p, l, e, R⟩, ⟨s, m, args, below, meth, c⟩, ⟨A, Z⟩, ⟨dC, dI, dA⟩, adK⟩ := X
  obtain ⟨⟨hx, hb, hml, hrt, hlk, hnm⟩, -⟩ := C
  intro H locs lsA hw hl
  exact lv_aload hx hb hd (am_load hl hg) (k H locs lsA hw hl)
theorem w0_aload_n {i : Fin 4} {x : Nat} (C : am_C0 M hh D MC MS X) (hd : decode M.2.1 pc = .ok (.aload_n i, 1)) (hg : am_get ls i.1 = some (.ref x)) (k : am_G X V cs (pc + 1) ls (.ref x :: st) r h) : am_G X V cs pc ls (st) r h := by
  obtain ⟨⟨p, l, e, R⟩, ⟨s, m, args, below, meth, c⟩, ⟨A, Z⟩, ⟨dC, dI, dA⟩, adK⟩ := X
  obtain ⟨⟨hx, hb, hml, hrt, hlk, hnm⟩, -⟩ := C
  intro H locs lsA hw hl
  exact lv_aload_n hx hb hd rfl (am_load hl hg) (k H locs lsA hw hl)
theorem w0_iload_n {i : Fin 4} {x : Int32} (C : am_C0 M hh D MC MS X) (hd : decode M.2.1 pc = .ok (.iload_n i, 1)) (hg : am_get ls i.1 = some (.int x)) (k : am_G X V cs (pc + 1) ls (.int x :: st) r h) : am_G X V cs pc ls (st) r h := by
  obtain ⟨⟨p, l, e, R⟩, ⟨s, m, args, below, meth, c⟩, ⟨A, Z⟩, ⟨dC, dI, dA⟩, adK⟩ := X
  obtain ⟨⟨hx, hb, hml, hrt, hlk, hnm⟩, -⟩ := C
  intro H locs lsA hw hl
  exact lv_iload_n hx hb hd rfl (am_load hl hg) (k H locs lsA hw hl)
theorem w0_iconst {n : Nat} (C : am_C0 M hh D MC MS X) (hd : decode M.2.1 pc = .ok (.iconst n, 1)) (k : am_G X V cs (pc + 1) ls (.int (nI n) :: st) r h) : am_G X V cs pc ls (st) r h := by
  obtain ⟨⟨p, l, e, R⟩, ⟨s, m, args, below, meth, c⟩, ⟨A, Z⟩, ⟨dC, dI, dA⟩, adK⟩ := X
  obtain ⟨⟨hx, hb, hml, hrt, hlk, hnm⟩, -⟩ := C
  intro H locs lsA hw hl
  exact lv_iconst hx hb hd rfl (k H locs lsA hw hl)
theorem w0_i2l {x : Int32} (C : am_C0 M hh D MC MS X) (hd : decode M.2.1 pc = .ok (.i2l, 1)) (k : am_G X V cs (pc + 1) ls (.long x.toInt64 :: st) r h) : am_G X V cs pc ls (.int x :: st) r h := by
  obtain ⟨⟨p, l, e, R⟩, ⟨s, m, args, below, meth, c⟩, ⟨A, Z⟩, ⟨dC, dI, dA⟩, adK⟩ := X
  obtain ⟨⟨hx, hb, hml, hrt, hlk, hnm⟩, -⟩ := C
  intro H locs lsA hw hl
  exact lv_i2l hx hb hd rfl (k H locs lsA hw hl)
theorem w0_goto {off : Int} {tgt : Nat} (C : am_C0 M hh D MC MS X) (hd : decode M.2.1 pc = .ok (.goto off, 3)) (ht : (pc : Int) + off = (tgt : Int)) (k : am_G X V cs tgt ls (st) r h) : am_G X V cs pc ls (st) r h := by
  obtain ⟨⟨p, l, e, R⟩, ⟨s, m, args, below, meth, c⟩, ⟨A, Z⟩, ⟨dC, dI, dA⟩, adK⟩ := X
  obtain ⟨⟨hx, hb, hml, hrt, hlk, hnm⟩, -⟩ := C
  intro H locs lsA hw hl
  exact lv_goto hx hb hd ht (k H locs lsA hw hl)
theorem w0_lastore {n i : Nat} {j x : Int32} (C : am_C0 M hh D MC MS X) (hd : decode M.2.1 pc = .ok (.lastore, 1)) (hi : i < V.2.1) (hs : V.2.2 i = (4, n)) (hj : vp_in j n) (kk : am_G X V cs (pc + 1) ls st r (am_up h i j.toNatClampNeg x)) : am_G X V cs pc ls (.long x.toInt64 :: .int j :: .ref i :: st) r h := by
  obtain ⟨⟨p, l, e, R⟩, ⟨s, m, args, below, meth, c⟩, ⟨A, Z⟩, ⟨dC, dI, dA⟩, adK⟩ := X
  obtain ⟨⟨hx, hb, hml, hrt, hlk, hnm⟩, ⟨hown, hts, htr, hK⟩, -⟩ := C
  intro H locs lsA hw hl
  have hw0 := hw
  obtain ⟨hP, hDj, hS, hstr⟩ := hw0
  have he := am_ws_at (dA := dA) (r := r) (h := h) hi
  rw [hs, am_en4] at he
  exact va_last (D := (dC, dI)) hx hb hK hP (am_D hDj) hS i 4 he rfl hj hd (fun H1 locs1 hP1 _ hS1 => kk H1 locs1 lsA (am_w_at hw (by rw [hs, am_en4]; exact congrArg (fun z => (Sum.inl (dA 4, n, Sum.inr (Sum.inl z)) : va_E)) (funext fun b => by by_cases hb : b = j.toNatClampNeg <;> simp [am_up, vp_updL, hb])) (fun a ha => by rw [am_up_ne _ _ _ _ _ ha]) hP1 hS1) hl)
theorem w0_callVX {Y : am_M} {n d mc ms ix b ci : Nat} {As : List Value} {Q : Option Value → am_R → am_H → Prop} {QX : String → am_R → am_H → Prop} (C : am_C0 M hh D MC MS X) (hd : decode M.2.1 pc = .ok (.invokevirtual ix, 3)) (hl : Cond.methodLink M.1.cls ix Y.1 ∈ am_GW) (hY : am_IV Y n) (hst : st0 = As.reverse ++ .ref b :: st) (hn : As.length = n)
    (hb : b < V.2.1) (hs : V.2.2 b = (0, ci)) (hci : ci < 13 ∧ (am_cl ci).1 = Y.1.cls) (hD : d + 1 ≤ D) (h1 : cs.1 + mc ≤ MC) (h2 : cs.2 + ms ≤ MS) (h8 : (st.map fun v => v.category).sum ≤ 8)
    (hct : am_XM Y d mc ms (.ref b :: As) V r h Q QX) (kx : ∀ (E : String) (r' : am_R) (h' : am_H), QX E r' h' → am_XG X V (cs.1 + mc, cs.2 + ms) pc ls E r' h') (k : ∀ (v : Option Value) (r' : am_R) (h' : am_H), Q v r' h' → am_G X V (cs.1 + mc, cs.2 + ms) (pc + 3) ls (v.toList ++ st) r' h') : am_G X V cs pc ls st0 r h := by
  obtain ⟨⟨p, l, e, R⟩, ⟨s, m, args, below, meth, c⟩, ⟨A, Z⟩, ⟨dC, dI, dA⟩, adK⟩ := X
  obtain ⟨⟨hx, hb9, hml, hrt, hlk, hnm⟩, ⟨hown, hts, htr, hK⟩, ⟨hA, hE⟩, hDf, hDl, hMC, hMS⟩ := C
  intro H locs lsA hw hloc
  obtain ⟨⟨sg1, sg2, sg3⟩, hcd, hin, hsel⟩ := hY
  subst hst
  have hG : GoodIn am_GW (wsV M.1.cls ix Y.1.cls Y.1 (am_wl Y)) := fun w hw => by
    have hm : w ∈ am_GW := by
      rcases List.mem_append.mp hw with h | h
      · simp only [List.mem_cons, List.not_mem_nil, or_false] at h
        rcases h with rfl | rfl | rfl | rfl
        · exact hl
        · exact hin
        · exact hsel
        · exact hcd.2.1
      · exact am_wsy hcd w h
    exact ⟨hm, good_of_word (am_gw hm)⟩
  obtain ⟨htc, -, -, -⟩ := am_tball hci.1
  have he : (am_ws dA V r h)[b]? = some (V.1 b, .inr (ci, (List.range (am_cl ci).2.2).map (am_fv V.1 (am_cl ci).2.1 (r b) (h b)))) := by rw [am_ws_at hb, hs]; rfl
  have hrecv := va_recv hK hw.1 htc he
  rw [hci.2] at hrecv
  refine am_afterX hw hA (vx_runV (As := As.map (am_cv V.1)) (rest := st.map (am_cv V.1)) (b := V.1 b) (C := Y.1.cls) ⟨hx, hb9, hml, hown, hts⟩ (hct l htr dC dI dA adK H.size)
    (cwV n hts hG rfl rfl rfl ⟨rfl, sg1, sg2, sg3⟩ ⟨by show d + 1 ≤ R.frames; omega, by show 8 + (Y.2.2.1 + 11) + 64 * d ≤ R.locals; have := hcd.2.2; omega⟩) ⟨am_blind, hrecv, am_pre (as := .ref b :: As) hw hA hK hE⟩ rfl (by rw [List.length_map]; exact hn) (hloc.1.trans hml) ?_ (lv_room (by rw [am_cats]; exact h8)) hd ⟨by omega, by omega⟩) ?_ ?_
  · simp [am_cv]
  · intro E r' h' hq H1 locs1 q ce hw1 hce hcv hcl
    exact kx E r' h' hq H1 locs1 lsA _ q ce hw1 hloc hce hcv hcl
  · intro v r' h' hq H1 locs1 hw1
    rw [am_stk]
    exact k v r' h' hq H1 locs1 lsA hw1 hloc
/-- a handler: what is thrown is laid down, the number k is answered -/
theorem w0_catch {E : String} {mc ms : Nat} {Q : Option Value → am_R → am_H → Prop} {k n n2 : Nat} (C : am_C0 M hh D MC MS X) (T : am_T M X V mc ms Q) (hc1 : cs.1 ≤ mc) (hc2 : cs.2 ≤ ms) (hq : Q (some (.int (nI k))) r h)
    (pre suf : List (Nat × Nat × Nat × Nat)) (x : Nat × Nat × Nat × Nat) (hsp : hh = pre ++ x :: suf) (hpass : ∀ z ∈ pre, z.2.2.2 ≠ 0 ∧ ∃ nm : String, Cond.classLink M.1.cls z.2.2.2 nm ∈ am_GW ∧ (E, nm) ∈ am_NC) (hcov : x.1 ≤ pc ∧ pc < x.2.1) (h0 : x.2.2.2 ≠ 0)
    (hlink : Cond.classLink M.1.cls x.2.2.2 E ∈ am_GW) (hcast : Cond.castable E E ∈ am_NW) (hn : n < M.2.2.1)
    (d0 : (decode M.2.1 x.2.2.1 = .ok (.astore n, 2) ∧ n2 = x.2.2.1 + 2) ∨ (∃ i : Fin 4, decode M.2.1 x.2.2.1 = .ok (.astore_n i, 1) ∧ i.1 = n ∧ n2 = x.2.2.1 + 1)) (d1 : decode M.2.1 n2 = .ok (.iconst k, 1)) (d2 : decode M.2.1 (n2 + 1) = .ok (.ireturn, 1)) (hrt : M.2.2.2 = some .int) : am_XG X V cs pc ls E r h := by
  obtain ⟨⟨p, l, e, R⟩, ⟨s, m, args, below, meth, c⟩, ⟨A, Z⟩, ⟨dC, dI, dA⟩, adK⟩ := X
  obtain ⟨⟨hx, hb, hml, hrt9, hlk, htab⟩, ⟨hown, hts, htr, hK⟩, ⟨hA, hE⟩, -⟩ := C
  intro H locs lsA rest q ce hw hl hcell hcv hcl
  refine vx_catch (own := M.1.cls) (name := E) (E := E) (ce := ce) hown (tableOf pre) ⟨x.1, x.2.1, x.2.2.1, x.2.2.2⟩ (tableOf suf) (by rw [htab, hsp]; simp [tableOf]) (fun z hz => ?_) ?_ h0 (hts _ hlink) (vx_ot_at (args := #[]) (s := s) (State.WarmedH.refl s) rfl rfl (hE.1 _ hcast)) hcell hcv hcl ?_
  · obtain ⟨z0, hz0, rfl⟩ := List.mem_map.mp hz
    obtain ⟨h1, nm, h2, h3⟩ := hpass z0 hz0
    exact Or.inr ⟨h1, nm, hts _ h2, hE.2.2.2.2.2 _ h3⟩
  · simp [covers, hcov.1, hcov.2]
  · have tail : ∀ lsB : Array Slot, W p l e R s m args below meth c H locs cs.1 cs.2 Z (F0 m n2 lsB []) := fun lsB =>
      lv_iconst hx hb d1 rfl (T (some (.int (nI k))) r h hq cs (n2 + 1) H locs lsB hc1 hc2 (Or.inl ⟨nI k, .int, rfl, d2, hrt, rfl⟩) hw)
    rcases d0 with ⟨d0, rfl⟩ | ⟨i, d0, hi, rfl⟩
    · exact lv_astore hx hb d0 hl (by rw [hml]; exact hn) rfl (fun lsB _ => tail lsB)
    · exact lv_astore_n hx hb d0 rfl hl (by rw [hml, hi]; exact hn) rfl (fun lsB _ => tail lsB)
theorem w0_iret {mc ms : Nat} {Q : Option Value → am_R → am_H → Prop} {x : Int32} (T : am_T M X V mc ms Q) (hd : decode M.2.1 pc = .ok (.ireturn, 1)) (hr : M.2.2.2 = some .int) (h1 : cs.1 ≤ mc) (h2 : cs.2 ≤ ms) (hq : Q (some (.int x)) r h) : am_G X V cs pc ls [.int x] r h := am_iret T hd hr rfl h1 h2 hq
/-- the law calls a helper -/
theorem am_callWX {Y : am_M} {n d mc ms ix : Nat} {As : List Value} {Q : Option Value → am_R → am_H → Prop} (C : am_C M D MC MS X) (hd : decode M.2.1 pc = .ok (.invokestatic ix, 3)) (hl : Cond.methodLink M.1.cls ix Y.1 ∈ am_GW) (hs9 : am_sig Y n) (hcd : Cond.codeWith Y.1 Y.2.1 Y.2.2.1 Y.2.2.2 hh ∈ am_GW ∧ Cond.initialized Y.1.cls ∈ am_GW ∧ Y.2.2.1 ≤ 45) (hstat : Cond.static Y.1 ∈ am_GW) (hst : st0 = As.reverse ++ st) (hn : As.length = n)
    (hD : d + 1 ≤ D) (h1 : cs.1 + mc ≤ MC) (h2 : cs.2 + ms ≤ MS) (h8 : (st.map fun v => v.category).sum ≤ 8)
    (hct : am_WM Y hh d mc ms As V r h Q) (k : ∀ (v : Option Value) (r' : am_R) (h' : am_H), Q v r' h' → am_G X V (cs.1 + mc, cs.2 + ms) (pc + 3) ls (v.toList ++ st) r' h') : am_G X V cs pc ls st0 r h := by
  obtain ⟨⟨p, l, e, R⟩, ⟨s, m, args, below, meth, c⟩, ⟨A, Z⟩, ⟨dC, dI, dA⟩, adK⟩ := X
  obtain ⟨⟨hx, hb9, hml, hrt, hlk, hnm⟩, ⟨hown, hts, htr, hK⟩, ⟨hA, hE⟩, hDf, hDl, hMC, hMS⟩ := C
  intro H locs lsA hw hloc
  obtain ⟨sg1, sg2, sg3⟩ := hs9
  subst hst
  have hG : GoodIn (am_wl M) (va_wsS M.1.cls ix Y.1 (am_wh Y hh)) := am_gi (fun w hw => by
    rcases List.mem_append.mp hw with h | h
    · simp only [List.mem_cons, List.not_mem_nil, or_false] at h
      rcases h with rfl | rfl | rfl
      · exact hl
      · exact hstat
      · exact hcd.2.1
    · rcases List.mem_cons.mp h with rfl | h
      · exact hcd.1
      · exact h)
  refine am_afterX hw hA (vx_runSX (As := As.map (am_cv V.1)) (rest := st.map (am_cv V.1)) ⟨hx, hb9, hml, hown, hts⟩ (hct l htr dC dI dA adK H.size)
    (vx_cwSW n hts hG rfl rfl rfl ⟨sg1, sg2, sg3⟩ ⟨by show d + 1 ≤ R.frames; omega, by show 8 + (Y.2.2.1 + 11) + 64 * d ≤ R.locals; have := hcd.2.2; omega⟩) ⟨am_blind, am_pre (as := As) hw hA hK hE⟩ rfl (by rw [List.length_map]; exact hn) (hloc.1.trans hml) ?_ (lv_room (by rw [am_cats]; exact h8)) hd ⟨by omega, by omega⟩) ?_ ?_
  · simp
  · intro E r' h' hq
    exact hq.elim
  · intro v r' h' hq H1 locs1 hw1
    rw [am_stk]
    exact k v r' h' hq H1 locs1 lsA hw1 hloc
abbrev hL_war : List (Nat × Nat × Nat × Nat) := [(0, 8, 11, 13), (0, 8, 14, 15)]
theorem dL_war_0 : decode cL_war 0 = .ok (.aload_n 1, 1) := by decide +kernel
theorem dL_war_1 : decode cL_war 1 = .ok (.iconst 0, 1) := by decide +kernel
theorem dL_war_2 : decode cL_war 2 = .ok (.aload_n 0, 1) := by decide +kernel
theorem dL_war_3 : decode cL_war 3 = .ok (.invokevirtual 7, 3) := by decide +kernel
theorem dL_war_6 : decode cL_war 6 = .ok (.i2l, 1) := by decide +kernel
theorem dL_war_7 : decode cL_war 7 = .ok (.lastore, 1) := by decide +kernel
theorem dL_war_8 : decode cL_war 8 = .ok (.goto 9, 3) := by decide +kernel
theorem dL_war_11 : decode cL_war 11 = .ok (.astore_n 2, 1) := by decide +kernel
theorem dL_war_12 : decode cL_war 12 = .ok (.iconst 1, 1) := by decide +kernel
theorem dL_war_13 : decode cL_war 13 = .ok (.ireturn, 1) := by decide +kernel
theorem dL_war_14 : decode cL_war 14 = .ok (.astore_n 2, 1) := by decide +kernel
theorem dL_war_15 : decode cL_war 15 = .ok (.iconst 2, 1) := by decide +kernel
theorem dL_war_16 : decode cL_war 16 = .ok (.ireturn, 1) := by decide +kernel
theorem dL_war_17 : decode cL_war 17 = .ok (.iconst 0, 1) := by decide +kernel
theorem dL_war_18 : decode cL_war 18 = .ok (.ireturn, 1) := by decide +kernel
/-- war -/
theorem w_war {ad : Nat → Nat} {r : am_R} {h : am_H}  {d c mc ms : Nat} {a : Int32} {P : am_R → am_H → Prop} (hP : ∀ r' h' g, P r' h' → P r' (am_row h' 335 g)) (hX : am_XM mX11_war d mc ms [.ref 0] (am_VV ad) r h (ex_ret c a P) (ex_thr ["java/lang/IllegalArgumentException", "java/lang/UnsupportedOperationException"] c P)) : am_WM mL_war hL_war (d + 1) mc ms [.ref 0, .ref 335] (am_VV ad) r h (ex_w c a P) := by
  refine am_WM.of (by decide +kernel) (Nat.le_of_ble_eq_true rfl) (fun X C T => ?_)
  show am_G X (am_VV ad) (0, 0) 0 [(0, .ref 0), (1, .ref 335)] [] r h
  refine w0_aload_n (pc := 0) C dL_war_0 rfl ?_
  refine w0_iconst (pc := 1) (n := 0) C dL_war_1 ?_
  refine w0_aload_n (pc := 2) C dL_war_2 rfl ?_
  refine w0_callVX (Y := mX11_war) (pc := 3) (st := [.int (nI 0), .ref 335]) (As := []) C dL_war_3 (am_mem 778 (by decide +kernel) rfl) v_X11_war rfl rfl bn_0 sh_0 ⟨by decide, rfl⟩ (Nat.le_refl _) (Nat.le_of_eq (Nat.zero_add _)) (Nat.le_of_eq (Nat.zero_add _)) (Nat.le_of_ble_eq_true rfl) hX (fun E r1 h1 hq => ?_) (fun v r1 h1 hq => ?_)
  · obtain ⟨k, rfl, hk, hp⟩ := hq
    by_cases e0 : k = 0
    · subst e0
      obtain rfl : "java/lang/IllegalArgumentException" = E := Option.some.inj hk
      exact w0_catch (k := 1) (n := 2) (n2 := 12) C T (Nat.le_of_eq (Nat.zero_add _)) (Nat.le_of_eq (Nat.zero_add _)) ⟨rfl, hp, fun z => absurd z (by omega)⟩ [] [(0, 8, 14, 15)] (0, 8, 11, 13) rfl (fun z hz => nomatch hz) ⟨Nat.zero_le _, by decide⟩ (by decide) (am_mem 776 (by decide +kernel) rfl) (am_nw 960 (by decide +kernel) rfl) (by decide) (Or.inr ⟨2, dL_war_11, rfl, rfl⟩) dL_war_12 dL_war_13 rfl
    by_cases e1 : k = 1
    · subst e1
      obtain rfl : "java/lang/UnsupportedOperationException" = E := Option.some.inj hk
      exact w0_catch (k := 2) (n := 2) (n2 := 15) C T (Nat.le_of_eq (Nat.zero_add _)) (Nat.le_of_eq (Nat.zero_add _)) ⟨rfl, hp, fun z => absurd z (by omega)⟩ [(0, 8, 11, 13)] [] (0, 8, 14, 15) rfl (List.forall_mem_cons.mpr ⟨⟨by decide, "java/lang/IllegalArgumentException", am_mem 776 (by decide +kernel) rfl, List.mem_of_getElem? (i := 0) rfl⟩, (fun z hz => nomatch hz)⟩) ⟨Nat.zero_le _, by decide⟩ (by decide) (am_mem 777 (by decide +kernel) rfl) (am_nw 1030 (by decide +kernel) rfl) (by decide) (Or.inr ⟨2, dL_war_14, rfl, rfl⟩) dL_war_15 dL_war_16 rfl
    exact absurd ((List.getElem?_eq_some_iff.mp hk).1) (by show ¬ k < 2; omega)
  · obtain ⟨rfl, rfl, hp⟩ := hq
    refine w0_i2l (pc := 6) C dL_war_6 ?_
    refine w0_lastore (pc := 7) C dL_war_7 bn_335 sh_335 (vp_in_nI (by decide) (by decide)) ?_
    refine w0_goto (pc := 8) (tgt := 17) C dL_war_8 (by decide) ?_
    refine w0_iconst (pc := 17) (n := 0) C dL_war_17 ?_
    have eu : am_up h1 335 (nI 0).toNatClampNeg a = am_row h1 335 (upd (h1 335) 0 a) := by rw [nI_clamp (by decide)]; exact am_up_rw _ _ _ _
    rw [eu]
    exact w0_iret (pc := 18) T dL_war_18 rfl (Nat.le_of_eq (Nat.zero_add _)) (Nat.le_of_eq (Nat.zero_add _)) ⟨rfl, hP _ _ _ hp, fun _ => by rw [am_row_at]; exact rf_upd_eq⟩
abbrev hL_law : List (Nat × Nat × Nat × Nat) := [(0, 8, 11, 13)]
theorem dL_law_0 : decode cL_law 0 = .ok (.aload_n 1, 1) := by decide +kernel
theorem dL_law_1 : decode cL_law 1 = .ok (.iconst 0, 1) := by decide +kernel
theorem dL_law_2 : decode cL_law 2 = .ok (.aload_n 0, 1) := by decide +kernel
theorem dL_law_3 : decode cL_law 3 = .ok (.invokevirtual 17, 3) := by decide +kernel
theorem dL_law_6 : decode cL_law 6 = .ok (.i2l, 1) := by decide +kernel
theorem dL_law_7 : decode cL_law 7 = .ok (.lastore, 1) := by decide +kernel
theorem dL_law_8 : decode cL_law 8 = .ok (.goto 6, 3) := by decide +kernel
theorem dL_law_11 : decode cL_law 11 = .ok (.astore_n 2, 1) := by decide +kernel
theorem dL_law_12 : decode cL_law 12 = .ok (.iconst 1, 1) := by decide +kernel
theorem dL_law_13 : decode cL_law 13 = .ok (.ireturn, 1) := by decide +kernel
theorem dL_law_14 : decode cL_law 14 = .ok (.iconst 0, 1) := by decide +kernel
theorem dL_law_15 : decode cL_law 15 = .ok (.ireturn, 1) := by decide +kernel
/-- law -/
theorem w_law {ad : Nat → Nat} {r : am_R} {h : am_H}  {d c mc ms : Nat} {a : Int32} {P : am_R → am_H → Prop} (hP : ∀ r' h' g, P r' h' → P r' (am_row h' 335 g)) (hX : am_XM mX11_law d mc ms [.ref 0] (am_VV ad) r h (ex_ret c a P) (ex_thr ["java/lang/IllegalArgumentException"] c P)) : am_WM mL_law hL_law (d + 1) mc ms [.ref 0, .ref 335] (am_VV ad) r h (ex_w c a P) := by
  refine am_WM.of (by decide +kernel) (Nat.le_of_ble_eq_true rfl) (fun X C T => ?_)
  show am_G X (am_VV ad) (0, 0) 0 [(0, .ref 0), (1, .ref 335)] [] r h
  refine w0_aload_n (pc := 0) C dL_law_0 rfl ?_
  refine w0_iconst (pc := 1) (n := 0) C dL_law_1 ?_
  refine w0_aload_n (pc := 2) C dL_law_2 rfl ?_
  refine w0_callVX (Y := mX11_law) (pc := 3) (st := [.int (nI 0), .ref 335]) (As := []) C dL_law_3 (am_mem 1047 (by decide +kernel) rfl) v_X11_law rfl rfl bn_0 sh_0 ⟨by decide, rfl⟩ (Nat.le_refl _) (Nat.le_of_eq (Nat.zero_add _)) (Nat.le_of_eq (Nat.zero_add _)) (Nat.le_of_ble_eq_true rfl) hX (fun E r1 h1 hq => ?_) (fun v r1 h1 hq => ?_)
  · obtain ⟨k, rfl, hk, hp⟩ := hq
    by_cases e0 : k = 0
    · subst e0
      obtain rfl : "java/lang/IllegalArgumentException" = E := Option.some.inj hk
      exact w0_catch (k := 1) (n := 2) (n2 := 12) C T (Nat.le_of_eq (Nat.zero_add _)) (Nat.le_of_eq (Nat.zero_add _)) ⟨rfl, hp, fun z => absurd z (by omega)⟩ [] [] (0, 8, 11, 13) rfl (fun z hz => nomatch hz) ⟨Nat.zero_le _, by decide⟩ (by decide) (am_mem 776 (by decide +kernel) rfl) (am_nw 960 (by decide +kernel) rfl) (by decide) (Or.inr ⟨2, dL_law_11, rfl, rfl⟩) dL_law_12 dL_law_13 rfl
    exact absurd ((List.getElem?_eq_some_iff.mp hk).1) (by show ¬ k < 1; omega)
  · obtain ⟨rfl, rfl, hp⟩ := hq
    refine w0_i2l (pc := 6) C dL_law_6 ?_
    refine w0_lastore (pc := 7) C dL_law_7 bn_335 sh_335 (vp_in_nI (by decide) (by decide)) ?_
    refine w0_goto (pc := 8) (tgt := 14) C dL_law_8 (by decide) ?_
    refine w0_iconst (pc := 14) (n := 0) C dL_law_14 ?_
    have eu : am_up h1 335 (nI 0).toNatClampNeg a = am_row h1 335 (upd (h1 335) 0 a) := by rw [nI_clamp (by decide)]; exact am_up_rw _ _ _ _
    rw [eu]
    exact w0_iret (pc := 15) T dL_law_15 rfl (Nat.le_of_eq (Nat.zero_add _)) (Nat.le_of_eq (Nat.zero_add _)) ⟨rfl, hP _ _ _ hp, fun _ => by rw [am_row_at]; exact rf_upd_eq⟩
abbrev hL_memory : List (Nat × Nat × Nat × Nat) := [(0, 10, 13, 24), (0, 10, 17, 26)]
theorem dL_memory_0 : decode cL_memory 0 = .ok (.aload_n 3, 1) := by decide +kernel
theorem dL_memory_1 : decode cL_memory 1 = .ok (.iconst 0, 1) := by decide +kernel
theorem dL_memory_2 : decode cL_memory 2 = .ok (.aload_n 0, 1) := by decide +kernel
theorem dL_memory_3 : decode cL_memory 3 = .ok (.iload_n 1, 1) := by decide +kernel
theorem dL_memory_4 : decode cL_memory 4 = .ok (.iload_n 2, 1) := by decide +kernel
theorem dL_memory_5 : decode cL_memory 5 = .ok (.invokevirtual 20, 3) := by decide +kernel
theorem dL_memory_8 : decode cL_memory 8 = .ok (.i2l, 1) := by decide +kernel
theorem dL_memory_9 : decode cL_memory 9 = .ok (.lastore, 1) := by decide +kernel
theorem dL_memory_10 : decode cL_memory 10 = .ok (.goto 11, 3) := by decide +kernel
theorem dL_memory_13 : decode cL_memory 13 = .ok (.astore 4, 2) := by decide +kernel
theorem dL_memory_15 : decode cL_memory 15 = .ok (.iconst 1, 1) := by decide +kernel
theorem dL_memory_16 : decode cL_memory 16 = .ok (.ireturn, 1) := by decide +kernel
theorem dL_memory_17 : decode cL_memory 17 = .ok (.astore 4, 2) := by decide +kernel
theorem dL_memory_19 : decode cL_memory 19 = .ok (.iconst 2, 1) := by decide +kernel
theorem dL_memory_20 : decode cL_memory 20 = .ok (.ireturn, 1) := by decide +kernel
theorem dL_memory_21 : decode cL_memory 21 = .ok (.iconst 0, 1) := by decide +kernel
theorem dL_memory_22 : decode cL_memory 22 = .ok (.ireturn, 1) := by decide +kernel
/-- memory -/
theorem w_memory {ad : Nat → Nat} {r : am_R} {h : am_H} (x1 : Int32) (x2 : Int32) {d c mc ms : Nat} {a : Int32} {P : am_R → am_H → Prop} (hP : ∀ r' h' g, P r' h' → P r' (am_row h' 335 g)) (hX : am_XM mX11_memory d mc ms [.ref 0, .int x1, .int x2] (am_VV ad) r h (ex_ret c a P) (ex_thr ["java/lang/IndexOutOfBoundsException", "java/util/NoSuchElementException"] c P)) : am_WM mL_memory hL_memory (d + 1) mc ms [.ref 0, .int x1, .int x2, .ref 335] (am_VV ad) r h (ex_w c a P) := by
  refine am_WM.of (by decide +kernel) (Nat.le_of_ble_eq_true rfl) (fun X C T => ?_)
  show am_G X (am_VV ad) (0, 0) 0 [(0, .ref 0), (1, .int x1), (2, .int x2), (3, .ref 335)] [] r h
  refine w0_aload_n (pc := 0) C dL_memory_0 rfl ?_
  refine w0_iconst (pc := 1) (n := 0) C dL_memory_1 ?_
  refine w0_aload_n (pc := 2) C dL_memory_2 rfl ?_
  refine w0_iload_n (pc := 3) C dL_memory_3 rfl ?_
  refine w0_iload_n (pc := 4) C dL_memory_4 rfl ?_
  refine w0_callVX (Y := mX11_memory) (pc := 5) (st := [.int (nI 0), .ref 335]) (As := [.int x1, .int x2]) C dL_memory_5 (am_mem 1132 (by decide +kernel) rfl) v_X11_memory rfl rfl bn_0 sh_0 ⟨by decide, rfl⟩ (Nat.le_refl _) (Nat.le_of_eq (Nat.zero_add _)) (Nat.le_of_eq (Nat.zero_add _)) (Nat.le_of_ble_eq_true rfl) hX (fun E r1 h1 hq => ?_) (fun v r1 h1 hq => ?_)
  · obtain ⟨k, rfl, hk, hp⟩ := hq
    by_cases e0 : k = 0
    · subst e0
      obtain rfl : "java/lang/IndexOutOfBoundsException" = E := Option.some.inj hk
      exact w0_catch (k := 1) (n := 4) (n2 := 15) C T (Nat.le_of_eq (Nat.zero_add _)) (Nat.le_of_eq (Nat.zero_add _)) ⟨rfl, hp, fun z => absurd z (by omega)⟩ [] [(0, 10, 17, 26)] (0, 10, 13, 24) rfl (fun z hz => nomatch hz) ⟨Nat.zero_le _, by decide⟩ (by decide) (am_mem 1130 (by decide +kernel) rfl) (am_nw 1142 (by decide +kernel) rfl) (by decide) (Or.inl ⟨dL_memory_13, rfl⟩) dL_memory_15 dL_memory_16 rfl
    by_cases e1 : k = 1
    · subst e1
      obtain rfl : "java/util/NoSuchElementException" = E := Option.some.inj hk
      exact w0_catch (k := 2) (n := 4) (n2 := 19) C T (Nat.le_of_eq (Nat.zero_add _)) (Nat.le_of_eq (Nat.zero_add _)) ⟨rfl, hp, fun z => absurd z (by omega)⟩ [(0, 10, 13, 24)] [] (0, 10, 17, 26) rfl (List.forall_mem_cons.mpr ⟨⟨by decide, "java/lang/IndexOutOfBoundsException", am_mem 1130 (by decide +kernel) rfl, List.mem_of_getElem? (i := 10) rfl⟩, (fun z hz => nomatch hz)⟩) ⟨Nat.zero_le _, by decide⟩ (by decide) (am_mem 1131 (by decide +kernel) rfl) (am_nw 1168 (by decide +kernel) rfl) (by decide) (Or.inl ⟨dL_memory_17, rfl⟩) dL_memory_19 dL_memory_20 rfl
    exact absurd ((List.getElem?_eq_some_iff.mp hk).1) (by show ¬ k < 2; omega)
  · obtain ⟨rfl, rfl, hp⟩ := hq
    refine w0_i2l (pc := 8) C dL_memory_8 ?_
    refine w0_lastore (pc := 9) C dL_memory_9 bn_335 sh_335 (vp_in_nI (by decide) (by decide)) ?_
    refine w0_goto (pc := 10) (tgt := 21) C dL_memory_10 (by decide) ?_
    refine w0_iconst (pc := 21) (n := 0) C dL_memory_21 ?_
    have eu : am_up h1 335 (nI 0).toNatClampNeg a = am_row h1 335 (upd (h1 335) 0 a) := by rw [nI_clamp (by decide)]; exact am_up_rw _ _ _ _
    rw [eu]
    exact w0_iret (pc := 22) T dL_memory_22 rfl (Nat.le_of_eq (Nat.zero_add _)) (Nat.le_of_eq (Nat.zero_add _)) ⟨rfl, hP _ _ _ hp, fun _ => by rw [am_row_at]; exact rf_upd_eq⟩
abbrev hL_soldier : List (Nat × Nat × Nat × Nat) := [(0, 10, 13, 24), (0, 10, 17, 26)]
theorem dL_soldier_0 : decode cL_soldier 0 = .ok (.aload_n 3, 1) := by decide +kernel
theorem dL_soldier_1 : decode cL_soldier 1 = .ok (.iconst 0, 1) := by decide +kernel
theorem dL_soldier_2 : decode cL_soldier 2 = .ok (.aload_n 0, 1) := by decide +kernel
theorem dL_soldier_3 : decode cL_soldier 3 = .ok (.iload_n 1, 1) := by decide +kernel
theorem dL_soldier_4 : decode cL_soldier 4 = .ok (.iload_n 2, 1) := by decide +kernel
theorem dL_soldier_5 : decode cL_soldier 5 = .ok (.invokevirtual 28, 3) := by decide +kernel
theorem dL_soldier_8 : decode cL_soldier 8 = .ok (.i2l, 1) := by decide +kernel
theorem dL_soldier_9 : decode cL_soldier 9 = .ok (.lastore, 1) := by decide +kernel
theorem dL_soldier_10 : decode cL_soldier 10 = .ok (.goto 11, 3) := by decide +kernel
theorem dL_soldier_13 : decode cL_soldier 13 = .ok (.astore 4, 2) := by decide +kernel
theorem dL_soldier_15 : decode cL_soldier 15 = .ok (.iconst 1, 1) := by decide +kernel
theorem dL_soldier_16 : decode cL_soldier 16 = .ok (.ireturn, 1) := by decide +kernel
theorem dL_soldier_17 : decode cL_soldier 17 = .ok (.astore 4, 2) := by decide +kernel
theorem dL_soldier_19 : decode cL_soldier 19 = .ok (.iconst 2, 1) := by decide +kernel
theorem dL_soldier_20 : decode cL_soldier 20 = .ok (.ireturn, 1) := by decide +kernel
theorem dL_soldier_21 : decode cL_soldier 21 = .ok (.iconst 0, 1) := by decide +kernel
theorem dL_soldier_22 : decode cL_soldier 22 = .ok (.ireturn, 1) := by decide +kernel
/-- soldier -/
theorem w_soldier {ad : Nat → Nat} {r : am_R} {h : am_H} (x1 : Int32) (x2 : Int32) {d c mc ms : Nat} {a : Int32} {P : am_R → am_H → Prop} (hP : ∀ r' h' g, P r' h' → P r' (am_row h' 335 g)) (hX : am_XM mX11_soldier d mc ms [.ref 0, .int x1, .int x2] (am_VV ad) r h (ex_ret c a P) (ex_thr ["java/lang/IndexOutOfBoundsException", "java/util/NoSuchElementException"] c P)) : am_WM mL_soldier hL_soldier (d + 1) mc ms [.ref 0, .int x1, .int x2, .ref 335] (am_VV ad) r h (ex_w c a P) := by
  refine am_WM.of (by decide +kernel) (Nat.le_of_ble_eq_true rfl) (fun X C T => ?_)
  show am_G X (am_VV ad) (0, 0) 0 [(0, .ref 0), (1, .int x1), (2, .int x2), (3, .ref 335)] [] r h
  refine w0_aload_n (pc := 0) C dL_soldier_0 rfl ?_
  refine w0_iconst (pc := 1) (n := 0) C dL_soldier_1 ?_
  refine w0_aload_n (pc := 2) C dL_soldier_2 rfl ?_
  refine w0_iload_n (pc := 3) C dL_soldier_3 rfl ?_
  refine w0_iload_n (pc := 4) C dL_soldier_4 rfl ?_
  refine w0_callVX (Y := mX11_soldier) (pc := 5) (st := [.int (nI 0), .ref 335]) (As := [.int x1, .int x2]) C dL_soldier_5 (am_mem 1185 (by decide +kernel) rfl) v_X11_soldier rfl rfl bn_0 sh_0 ⟨by decide, rfl⟩ (Nat.le_refl _) (Nat.le_of_eq (Nat.zero_add _)) (Nat.le_of_eq (Nat.zero_add _)) (Nat.le_of_ble_eq_true rfl) hX (fun E r1 h1 hq => ?_) (fun v r1 h1 hq => ?_)
  · obtain ⟨k, rfl, hk, hp⟩ := hq
    by_cases e0 : k = 0
    · subst e0
      obtain rfl : "java/lang/IndexOutOfBoundsException" = E := Option.some.inj hk
      exact w0_catch (k := 1) (n := 4) (n2 := 15) C T (Nat.le_of_eq (Nat.zero_add _)) (Nat.le_of_eq (Nat.zero_add _)) ⟨rfl, hp, fun z => absurd z (by omega)⟩ [] [(0, 10, 17, 26)] (0, 10, 13, 24) rfl (fun z hz => nomatch hz) ⟨Nat.zero_le _, by decide⟩ (by decide) (am_mem 1130 (by decide +kernel) rfl) (am_nw 1142 (by decide +kernel) rfl) (by decide) (Or.inl ⟨dL_soldier_13, rfl⟩) dL_soldier_15 dL_soldier_16 rfl
    by_cases e1 : k = 1
    · subst e1
      obtain rfl : "java/util/NoSuchElementException" = E := Option.some.inj hk
      exact w0_catch (k := 2) (n := 4) (n2 := 19) C T (Nat.le_of_eq (Nat.zero_add _)) (Nat.le_of_eq (Nat.zero_add _)) ⟨rfl, hp, fun z => absurd z (by omega)⟩ [(0, 10, 13, 24)] [] (0, 10, 17, 26) rfl (List.forall_mem_cons.mpr ⟨⟨by decide, "java/lang/IndexOutOfBoundsException", am_mem 1130 (by decide +kernel) rfl, List.mem_of_getElem? (i := 10) rfl⟩, (fun z hz => nomatch hz)⟩) ⟨Nat.zero_le _, by decide⟩ (by decide) (am_mem 1131 (by decide +kernel) rfl) (am_nw 1168 (by decide +kernel) rfl) (by decide) (Or.inl ⟨dL_soldier_17, rfl⟩) dL_soldier_19 dL_soldier_20 rfl
    exact absurd ((List.getElem?_eq_some_iff.mp hk).1) (by show ¬ k < 2; omega)
  · obtain ⟨rfl, rfl, hp⟩ := hq
    refine w0_i2l (pc := 8) C dL_soldier_8 ?_
    refine w0_lastore (pc := 9) C dL_soldier_9 bn_335 sh_335 (vp_in_nI (by decide) (by decide)) ?_
    refine w0_goto (pc := 10) (tgt := 21) C dL_soldier_10 (by decide) ?_
    refine w0_iconst (pc := 21) (n := 0) C dL_soldier_21 ?_
    have eu : am_up h1 335 (nI 0).toNatClampNeg a = am_row h1 335 (upd (h1 335) 0 a) := by rw [nI_clamp (by decide)]; exact am_up_rw _ _ _ _
    rw [eu]
    exact w0_iret (pc := 22) T dL_soldier_22 rfl (Nat.le_of_eq (Nat.zero_add _)) (Nat.le_of_eq (Nat.zero_add _)) ⟨rfl, hP _ _ _ hp, fun _ => by rw [am_row_at]; exact rf_upd_eq⟩
abbrev hL_known : List (Nat × Nat × Nat × Nat) := [(0, 10, 13, 24)]
theorem dL_known_0 : decode cL_known 0 = .ok (.aload_n 3, 1) := by decide +kernel
theorem dL_known_1 : decode cL_known 1 = .ok (.iconst 0, 1) := by decide +kernel
theorem dL_known_2 : decode cL_known 2 = .ok (.aload_n 0, 1) := by decide +kernel
theorem dL_known_3 : decode cL_known 3 = .ok (.iload_n 1, 1) := by decide +kernel
theorem dL_known_4 : decode cL_known 4 = .ok (.iload_n 2, 1) := by decide +kernel
theorem dL_known_5 : decode cL_known 5 = .ok (.invokevirtual 31, 3) := by decide +kernel
theorem dL_known_8 : decode cL_known 8 = .ok (.i2l, 1) := by decide +kernel
theorem dL_known_9 : decode cL_known 9 = .ok (.lastore, 1) := by decide +kernel
theorem dL_known_10 : decode cL_known 10 = .ok (.goto 7, 3) := by decide +kernel
theorem dL_known_13 : decode cL_known 13 = .ok (.astore 4, 2) := by decide +kernel
theorem dL_known_15 : decode cL_known 15 = .ok (.iconst 1, 1) := by decide +kernel
theorem dL_known_16 : decode cL_known 16 = .ok (.ireturn, 1) := by decide +kernel
theorem dL_known_17 : decode cL_known 17 = .ok (.iconst 0, 1) := by decide +kernel
theorem dL_known_18 : decode cL_known 18 = .ok (.ireturn, 1) := by decide +kernel
/-- known -/
theorem w_known {ad : Nat → Nat} {r : am_R} {h : am_H} (x1 : Int32) (x2 : Int32) {d c mc ms : Nat} {a : Int32} {P : am_R → am_H → Prop} (hP : ∀ r' h' g, P r' h' → P r' (am_row h' 335 g)) (hX : am_XM mX11_known d mc ms [.ref 0, .int x1, .int x2] (am_VV ad) r h (ex_ret c a P) (ex_thr ["java/lang/IndexOutOfBoundsException"] c P)) : am_WM mL_known hL_known (d + 1) mc ms [.ref 0, .int x1, .int x2, .ref 335] (am_VV ad) r h (ex_w c a P) := by
  refine am_WM.of (by decide +kernel) (Nat.le_of_ble_eq_true rfl) (fun X C T => ?_)
  show am_G X (am_VV ad) (0, 0) 0 [(0, .ref 0), (1, .int x1), (2, .int x2), (3, .ref 335)] [] r h
  refine w0_aload_n (pc := 0) C dL_known_0 rfl ?_
  refine w0_iconst (pc := 1) (n := 0) C dL_known_1 ?_
  refine w0_aload_n (pc := 2) C dL_known_2 rfl ?_
  refine w0_iload_n (pc := 3) C dL_known_3 rfl ?_
  refine w0_iload_n (pc := 4) C dL_known_4 rfl ?_
  refine w0_callVX (Y := mX11_known) (pc := 5) (st := [.int (nI 0), .ref 335]) (As := [.int x1, .int x2]) C dL_known_5 (am_mem 1210 (by decide +kernel) rfl) v_X11_known rfl rfl bn_0 sh_0 ⟨by decide, rfl⟩ (Nat.le_refl _) (Nat.le_of_eq (Nat.zero_add _)) (Nat.le_of_eq (Nat.zero_add _)) (Nat.le_of_ble_eq_true rfl) hX (fun E r1 h1 hq => ?_) (fun v r1 h1 hq => ?_)
  · obtain ⟨k, rfl, hk, hp⟩ := hq
    by_cases e0 : k = 0
    · subst e0
      obtain rfl : "java/lang/IndexOutOfBoundsException" = E := Option.some.inj hk
      exact w0_catch (k := 1) (n := 4) (n2 := 15) C T (Nat.le_of_eq (Nat.zero_add _)) (Nat.le_of_eq (Nat.zero_add _)) ⟨rfl, hp, fun z => absurd z (by omega)⟩ [] [] (0, 10, 13, 24) rfl (fun z hz => nomatch hz) ⟨Nat.zero_le _, by decide⟩ (by decide) (am_mem 1130 (by decide +kernel) rfl) (am_nw 1142 (by decide +kernel) rfl) (by decide) (Or.inl ⟨dL_known_13, rfl⟩) dL_known_15 dL_known_16 rfl
    exact absurd ((List.getElem?_eq_some_iff.mp hk).1) (by show ¬ k < 1; omega)
  · obtain ⟨rfl, rfl, hp⟩ := hq
    refine w0_i2l (pc := 8) C dL_known_8 ?_
    refine w0_lastore (pc := 9) C dL_known_9 bn_335 sh_335 (vp_in_nI (by decide) (by decide)) ?_
    refine w0_goto (pc := 10) (tgt := 17) C dL_known_10 (by decide) ?_
    refine w0_iconst (pc := 17) (n := 0) C dL_known_17 ?_
    have eu : am_up h1 335 (nI 0).toNatClampNeg a = am_row h1 335 (upd (h1 335) 0 a) := by rw [nI_clamp (by decide)]; exact am_up_rw _ _ _ _
    rw [eu]
    exact w0_iret (pc := 18) T dL_known_18 rfl (Nat.le_of_eq (Nat.zero_add _)) (Nat.le_of_eq (Nat.zero_add _)) ⟨rfl, hP _ _ _ hp, fun _ => by rw [am_row_at]; exact rf_upd_eq⟩
abbrev hL_place : List (Nat × Nat × Nat × Nat) := [(0, 10, 13, 24), (0, 10, 17, 13)]
theorem dL_place_0 : decode cL_place 0 = .ok (.aload_n 3, 1) := by decide +kernel
theorem dL_place_1 : decode cL_place 1 = .ok (.iconst 0, 1) := by decide +kernel
theorem dL_place_2 : decode cL_place 2 = .ok (.aload_n 0, 1) := by decide +kernel
theorem dL_place_3 : decode cL_place 3 = .ok (.iload_n 1, 1) := by decide +kernel
theorem dL_place_4 : decode cL_place 4 = .ok (.iload_n 2, 1) := by decide +kernel
theorem dL_place_5 : decode cL_place 5 = .ok (.invokevirtual 34, 3) := by decide +kernel
theorem dL_place_8 : decode cL_place 8 = .ok (.i2l, 1) := by decide +kernel
theorem dL_place_9 : decode cL_place 9 = .ok (.lastore, 1) := by decide +kernel
theorem dL_place_10 : decode cL_place 10 = .ok (.goto 11, 3) := by decide +kernel
theorem dL_place_13 : decode cL_place 13 = .ok (.astore 4, 2) := by decide +kernel
theorem dL_place_15 : decode cL_place 15 = .ok (.iconst 1, 1) := by decide +kernel
theorem dL_place_16 : decode cL_place 16 = .ok (.ireturn, 1) := by decide +kernel
theorem dL_place_17 : decode cL_place 17 = .ok (.astore 4, 2) := by decide +kernel
theorem dL_place_19 : decode cL_place 19 = .ok (.iconst 2, 1) := by decide +kernel
theorem dL_place_20 : decode cL_place 20 = .ok (.ireturn, 1) := by decide +kernel
theorem dL_place_21 : decode cL_place 21 = .ok (.iconst 0, 1) := by decide +kernel
theorem dL_place_22 : decode cL_place 22 = .ok (.ireturn, 1) := by decide +kernel
/-- place -/
theorem w_place {ad : Nat → Nat} {r : am_R} {h : am_H} (x1 : Int32) (x2 : Int32) {d c mc ms : Nat} {a : Int32} {P : am_R → am_H → Prop} (hP : ∀ r' h' g, P r' h' → P r' (am_row h' 335 g)) (hX : am_XM mX11_place d mc ms [.ref 0, .int x1, .int x2] (am_VV ad) r h (ex_ret c a P) (ex_thr ["java/lang/IndexOutOfBoundsException", "java/lang/IllegalArgumentException"] c P)) : am_WM mL_place hL_place (d + 1) mc ms [.ref 0, .int x1, .int x2, .ref 335] (am_VV ad) r h (ex_w c a P) := by
  refine am_WM.of (by decide +kernel) (Nat.le_of_ble_eq_true rfl) (fun X C T => ?_)
  show am_G X (am_VV ad) (0, 0) 0 [(0, .ref 0), (1, .int x1), (2, .int x2), (3, .ref 335)] [] r h
  refine w0_aload_n (pc := 0) C dL_place_0 rfl ?_
  refine w0_iconst (pc := 1) (n := 0) C dL_place_1 ?_
  refine w0_aload_n (pc := 2) C dL_place_2 rfl ?_
  refine w0_iload_n (pc := 3) C dL_place_3 rfl ?_
  refine w0_iload_n (pc := 4) C dL_place_4 rfl ?_
  refine w0_callVX (Y := mX11_place) (pc := 5) (st := [.int (nI 0), .ref 335]) (As := [.int x1, .int x2]) C dL_place_5 (am_mem 1221 (by decide +kernel) rfl) v_X11_place rfl rfl bn_0 sh_0 ⟨by decide, rfl⟩ (Nat.le_refl _) (Nat.le_of_eq (Nat.zero_add _)) (Nat.le_of_eq (Nat.zero_add _)) (Nat.le_of_ble_eq_true rfl) hX (fun E r1 h1 hq => ?_) (fun v r1 h1 hq => ?_)
  · obtain ⟨k, rfl, hk, hp⟩ := hq
    by_cases e0 : k = 0
    · subst e0
      obtain rfl : "java/lang/IndexOutOfBoundsException" = E := Option.some.inj hk
      exact w0_catch (k := 1) (n := 4) (n2 := 15) C T (Nat.le_of_eq (Nat.zero_add _)) (Nat.le_of_eq (Nat.zero_add _)) ⟨rfl, hp, fun z => absurd z (by omega)⟩ [] [(0, 10, 17, 13)] (0, 10, 13, 24) rfl (fun z hz => nomatch hz) ⟨Nat.zero_le _, by decide⟩ (by decide) (am_mem 1130 (by decide +kernel) rfl) (am_nw 1142 (by decide +kernel) rfl) (by decide) (Or.inl ⟨dL_place_13, rfl⟩) dL_place_15 dL_place_16 rfl
    by_cases e1 : k = 1
    · subst e1
      obtain rfl : "java/lang/IllegalArgumentException" = E := Option.some.inj hk
      exact w0_catch (k := 2) (n := 4) (n2 := 19) C T (Nat.le_of_eq (Nat.zero_add _)) (Nat.le_of_eq (Nat.zero_add _)) ⟨rfl, hp, fun z => absurd z (by omega)⟩ [(0, 10, 13, 24)] [] (0, 10, 17, 13) rfl (List.forall_mem_cons.mpr ⟨⟨by decide, "java/lang/IndexOutOfBoundsException", am_mem 1130 (by decide +kernel) rfl, List.mem_of_getElem? (i := 8) rfl⟩, (fun z hz => nomatch hz)⟩) ⟨Nat.zero_le _, by decide⟩ (by decide) (am_mem 776 (by decide +kernel) rfl) (am_nw 960 (by decide +kernel) rfl) (by decide) (Or.inl ⟨dL_place_17, rfl⟩) dL_place_19 dL_place_20 rfl
    exact absurd ((List.getElem?_eq_some_iff.mp hk).1) (by show ¬ k < 2; omega)
  · obtain ⟨rfl, rfl, hp⟩ := hq
    refine w0_i2l (pc := 8) C dL_place_8 ?_
    refine w0_lastore (pc := 9) C dL_place_9 bn_335 sh_335 (vp_in_nI (by decide) (by decide)) ?_
    refine w0_goto (pc := 10) (tgt := 21) C dL_place_10 (by decide) ?_
    refine w0_iconst (pc := 21) (n := 0) C dL_place_21 ?_
    have eu : am_up h1 335 (nI 0).toNatClampNeg a = am_row h1 335 (upd (h1 335) 0 a) := by rw [nI_clamp (by decide)]; exact am_up_rw _ _ _ _
    rw [eu]
    exact w0_iret (pc := 22) T dL_place_22 rfl (Nat.le_of_eq (Nat.zero_add _)) (Nat.le_of_eq (Nat.zero_add _)) ⟨rfl, hP _ _ _ hp, fun _ => by rw [am_row_at]; exact rf_upd_eq⟩
abbrev hL_falls : List (Nat × Nat × Nat × Nat) := [(0, 10, 13, 24)]
theorem dL_falls_0 : decode cL_falls 0 = .ok (.aload_n 3, 1) := by decide +kernel
theorem dL_falls_1 : decode cL_falls 1 = .ok (.iconst 0, 1) := by decide +kernel
theorem dL_falls_2 : decode cL_falls 2 = .ok (.aload_n 0, 1) := by decide +kernel
theorem dL_falls_3 : decode cL_falls 3 = .ok (.iload_n 1, 1) := by decide +kernel
theorem dL_falls_4 : decode cL_falls 4 = .ok (.iload_n 2, 1) := by decide +kernel
theorem dL_falls_5 : decode cL_falls 5 = .ok (.invokevirtual 37, 3) := by decide +kernel
theorem dL_falls_8 : decode cL_falls 8 = .ok (.i2l, 1) := by decide +kernel
theorem dL_falls_9 : decode cL_falls 9 = .ok (.lastore, 1) := by decide +kernel
theorem dL_falls_10 : decode cL_falls 10 = .ok (.goto 7, 3) := by decide +kernel
theorem dL_falls_13 : decode cL_falls 13 = .ok (.astore 4, 2) := by decide +kernel
theorem dL_falls_15 : decode cL_falls 15 = .ok (.iconst 1, 1) := by decide +kernel
theorem dL_falls_16 : decode cL_falls 16 = .ok (.ireturn, 1) := by decide +kernel
theorem dL_falls_17 : decode cL_falls 17 = .ok (.iconst 0, 1) := by decide +kernel
theorem dL_falls_18 : decode cL_falls 18 = .ok (.ireturn, 1) := by decide +kernel
/-- falls -/
theorem w_falls {ad : Nat → Nat} {r : am_R} {h : am_H} (x1 : Int32) (x2 : Int32) {d c mc ms : Nat} {a : Int32} {P : am_R → am_H → Prop} (hP : ∀ r' h' g, P r' h' → P r' (am_row h' 335 g)) (hX : am_XM mX11_falls d mc ms [.ref 0, .int x1, .int x2] (am_VV ad) r h (ex_ret c a P) (ex_thr ["java/lang/IndexOutOfBoundsException"] c P)) : am_WM mL_falls hL_falls (d + 1) mc ms [.ref 0, .int x1, .int x2, .ref 335] (am_VV ad) r h (ex_w c a P) := by
  refine am_WM.of (by decide +kernel) (Nat.le_of_ble_eq_true rfl) (fun X C T => ?_)
  show am_G X (am_VV ad) (0, 0) 0 [(0, .ref 0), (1, .int x1), (2, .int x2), (3, .ref 335)] [] r h
  refine w0_aload_n (pc := 0) C dL_falls_0 rfl ?_
  refine w0_iconst (pc := 1) (n := 0) C dL_falls_1 ?_
  refine w0_aload_n (pc := 2) C dL_falls_2 rfl ?_
  refine w0_iload_n (pc := 3) C dL_falls_3 rfl ?_
  refine w0_iload_n (pc := 4) C dL_falls_4 rfl ?_
  refine w0_callVX (Y := mX11_falls) (pc := 5) (st := [.int (nI 0), .ref 335]) (As := [.int x1, .int x2]) C dL_falls_5 (am_mem 1239 (by decide +kernel) rfl) v_X11_falls rfl rfl bn_0 sh_0 ⟨by decide, rfl⟩ (Nat.le_refl _) (Nat.le_of_eq (Nat.zero_add _)) (Nat.le_of_eq (Nat.zero_add _)) (Nat.le_of_ble_eq_true rfl) hX (fun E r1 h1 hq => ?_) (fun v r1 h1 hq => ?_)
  · obtain ⟨k, rfl, hk, hp⟩ := hq
    by_cases e0 : k = 0
    · subst e0
      obtain rfl : "java/lang/IndexOutOfBoundsException" = E := Option.some.inj hk
      exact w0_catch (k := 1) (n := 4) (n2 := 15) C T (Nat.le_of_eq (Nat.zero_add _)) (Nat.le_of_eq (Nat.zero_add _)) ⟨rfl, hp, fun z => absurd z (by omega)⟩ [] [] (0, 10, 13, 24) rfl (fun z hz => nomatch hz) ⟨Nat.zero_le _, by decide⟩ (by decide) (am_mem 1130 (by decide +kernel) rfl) (am_nw 1142 (by decide +kernel) rfl) (by decide) (Or.inl ⟨dL_falls_13, rfl⟩) dL_falls_15 dL_falls_16 rfl
    exact absurd ((List.getElem?_eq_some_iff.mp hk).1) (by show ¬ k < 1; omega)
  · obtain ⟨rfl, rfl, hp⟩ := hq
    refine w0_i2l (pc := 8) C dL_falls_8 ?_
    refine w0_lastore (pc := 9) C dL_falls_9 bn_335 sh_335 (vp_in_nI (by decide) (by decide)) ?_
    refine w0_goto (pc := 10) (tgt := 17) C dL_falls_10 (by decide) ?_
    refine w0_iconst (pc := 17) (n := 0) C dL_falls_17 ?_
    have eu : am_up h1 335 (nI 0).toNatClampNeg a = am_row h1 335 (upd (h1 335) 0 a) := by rw [nI_clamp (by decide)]; exact am_up_rw _ _ _ _
    rw [eu]
    exact w0_iret (pc := 18) T dL_falls_18 rfl (Nat.le_of_eq (Nat.zero_add _)) (Nat.le_of_eq (Nat.zero_add _)) ⟨rfl, hP _ _ _ hp, fun _ => by rw [am_row_at]; exact rf_upd_eq⟩
abbrev hL_order : List (Nat × Nat × Nat × Nat) := [(0, 10, 13, 24), (0, 10, 17, 26)]
theorem dL_order_0 : decode cL_order 0 = .ok (.aload_n 3, 1) := by decide +kernel
theorem dL_order_1 : decode cL_order 1 = .ok (.iconst 0, 1) := by decide +kernel
theorem dL_order_2 : decode cL_order 2 = .ok (.aload_n 0, 1) := by decide +kernel
theorem dL_order_3 : decode cL_order 3 = .ok (.iload_n 1, 1) := by decide +kernel
theorem dL_order_4 : decode cL_order 4 = .ok (.iload_n 2, 1) := by decide +kernel
theorem dL_order_5 : decode cL_order 5 = .ok (.invokevirtual 40, 3) := by decide +kernel
theorem dL_order_8 : decode cL_order 8 = .ok (.i2l, 1) := by decide +kernel
theorem dL_order_9 : decode cL_order 9 = .ok (.lastore, 1) := by decide +kernel
theorem dL_order_10 : decode cL_order 10 = .ok (.goto 11, 3) := by decide +kernel
theorem dL_order_13 : decode cL_order 13 = .ok (.astore 4, 2) := by decide +kernel
theorem dL_order_15 : decode cL_order 15 = .ok (.iconst 1, 1) := by decide +kernel
theorem dL_order_16 : decode cL_order 16 = .ok (.ireturn, 1) := by decide +kernel
theorem dL_order_17 : decode cL_order 17 = .ok (.astore 4, 2) := by decide +kernel
theorem dL_order_19 : decode cL_order 19 = .ok (.iconst 2, 1) := by decide +kernel
theorem dL_order_20 : decode cL_order 20 = .ok (.ireturn, 1) := by decide +kernel
theorem dL_order_21 : decode cL_order 21 = .ok (.iconst 0, 1) := by decide +kernel
theorem dL_order_22 : decode cL_order 22 = .ok (.ireturn, 1) := by decide +kernel
/-- order -/
theorem w_order {ad : Nat → Nat} {r : am_R} {h : am_H} (x1 : Int32) (x2 : Int32) {d c mc ms : Nat} {a : Int32} {P : am_R → am_H → Prop} (hP : ∀ r' h' g, P r' h' → P r' (am_row h' 335 g)) (hX : am_XM mX11_order d mc ms [.ref 0, .int x1, .int x2] (am_VV ad) r h (ex_ret c a P) (ex_thr ["java/lang/IndexOutOfBoundsException", "java/util/NoSuchElementException"] c P)) : am_WM mL_order hL_order (d + 1) mc ms [.ref 0, .int x1, .int x2, .ref 335] (am_VV ad) r h (ex_w c a P) := by
  refine am_WM.of (by decide +kernel) (Nat.le_of_ble_eq_true rfl) (fun X C T => ?_)
  show am_G X (am_VV ad) (0, 0) 0 [(0, .ref 0), (1, .int x1), (2, .int x2), (3, .ref 335)] [] r h
  refine w0_aload_n (pc := 0) C dL_order_0 rfl ?_
  refine w0_iconst (pc := 1) (n := 0) C dL_order_1 ?_
  refine w0_aload_n (pc := 2) C dL_order_2 rfl ?_
  refine w0_iload_n (pc := 3) C dL_order_3 rfl ?_
  refine w0_iload_n (pc := 4) C dL_order_4 rfl ?_
  refine w0_callVX (Y := mX11_order) (pc := 5) (st := [.int (nI 0), .ref 335]) (As := [.int x1, .int x2]) C dL_order_5 (am_mem 1250 (by decide +kernel) rfl) v_X11_order rfl rfl bn_0 sh_0 ⟨by decide, rfl⟩ (Nat.le_refl _) (Nat.le_of_eq (Nat.zero_add _)) (Nat.le_of_eq (Nat.zero_add _)) (Nat.le_of_ble_eq_true rfl) hX (fun E r1 h1 hq => ?_) (fun v r1 h1 hq => ?_)
  · obtain ⟨k, rfl, hk, hp⟩ := hq
    by_cases e0 : k = 0
    · subst e0
      obtain rfl : "java/lang/IndexOutOfBoundsException" = E := Option.some.inj hk
      exact w0_catch (k := 1) (n := 4) (n2 := 15) C T (Nat.le_of_eq (Nat.zero_add _)) (Nat.le_of_eq (Nat.zero_add _)) ⟨rfl, hp, fun z => absurd z (by omega)⟩ [] [(0, 10, 17, 26)] (0, 10, 13, 24) rfl (fun z hz => nomatch hz) ⟨Nat.zero_le _, by decide⟩ (by decide) (am_mem 1130 (by decide +kernel) rfl) (am_nw 1142 (by decide +kernel) rfl) (by decide) (Or.inl ⟨dL_order_13, rfl⟩) dL_order_15 dL_order_16 rfl
    by_cases e1 : k = 1
    · subst e1
      obtain rfl : "java/util/NoSuchElementException" = E := Option.some.inj hk
      exact w0_catch (k := 2) (n := 4) (n2 := 19) C T (Nat.le_of_eq (Nat.zero_add _)) (Nat.le_of_eq (Nat.zero_add _)) ⟨rfl, hp, fun z => absurd z (by omega)⟩ [(0, 10, 13, 24)] [] (0, 10, 17, 26) rfl (List.forall_mem_cons.mpr ⟨⟨by decide, "java/lang/IndexOutOfBoundsException", am_mem 1130 (by decide +kernel) rfl, List.mem_of_getElem? (i := 10) rfl⟩, (fun z hz => nomatch hz)⟩) ⟨Nat.zero_le _, by decide⟩ (by decide) (am_mem 1131 (by decide +kernel) rfl) (am_nw 1168 (by decide +kernel) rfl) (by decide) (Or.inl ⟨dL_order_17, rfl⟩) dL_order_19 dL_order_20 rfl
    exact absurd ((List.getElem?_eq_some_iff.mp hk).1) (by show ¬ k < 2; omega)
  · obtain ⟨rfl, rfl, hp⟩ := hq
    refine w0_i2l (pc := 8) C dL_order_8 ?_
    refine w0_lastore (pc := 9) C dL_order_9 bn_335 sh_335 (vp_in_nI (by decide) (by decide)) ?_
    refine w0_goto (pc := 10) (tgt := 21) C dL_order_10 (by decide) ?_
    refine w0_iconst (pc := 21) (n := 0) C dL_order_21 ?_
    have eu : am_up h1 335 (nI 0).toNatClampNeg a = am_row h1 335 (upd (h1 335) 0 a) := by rw [nI_clamp (by decide)]; exact am_up_rw _ _ _ _
    rw [eu]
    exact w0_iret (pc := 22) T dL_order_22 rfl (Nat.le_of_eq (Nat.zero_add _)) (Nat.le_of_eq (Nat.zero_add _)) ⟨rfl, hP _ _ _ hp, fun _ => by rw [am_row_at]; exact rf_upd_eq⟩
abbrev hL_rule : List (Nat × Nat × Nat × Nat) := [(0, 10, 13, 24), (0, 10, 17, 26)]
theorem dL_rule_0 : decode cL_rule 0 = .ok (.aload_n 3, 1) := by decide +kernel
theorem dL_rule_1 : decode cL_rule 1 = .ok (.iconst 0, 1) := by decide +kernel
theorem dL_rule_2 : decode cL_rule 2 = .ok (.aload_n 0, 1) := by decide +kernel
theorem dL_rule_3 : decode cL_rule 3 = .ok (.iload_n 1, 1) := by decide +kernel
theorem dL_rule_4 : decode cL_rule 4 = .ok (.iload_n 2, 1) := by decide +kernel
theorem dL_rule_5 : decode cL_rule 5 = .ok (.invokevirtual 43, 3) := by decide +kernel
theorem dL_rule_8 : decode cL_rule 8 = .ok (.i2l, 1) := by decide +kernel
theorem dL_rule_9 : decode cL_rule 9 = .ok (.lastore, 1) := by decide +kernel
theorem dL_rule_10 : decode cL_rule 10 = .ok (.goto 11, 3) := by decide +kernel
theorem dL_rule_13 : decode cL_rule 13 = .ok (.astore 4, 2) := by decide +kernel
theorem dL_rule_15 : decode cL_rule 15 = .ok (.iconst 1, 1) := by decide +kernel
theorem dL_rule_16 : decode cL_rule 16 = .ok (.ireturn, 1) := by decide +kernel
theorem dL_rule_17 : decode cL_rule 17 = .ok (.astore 4, 2) := by decide +kernel
theorem dL_rule_19 : decode cL_rule 19 = .ok (.iconst 2, 1) := by decide +kernel
theorem dL_rule_20 : decode cL_rule 20 = .ok (.ireturn, 1) := by decide +kernel
theorem dL_rule_21 : decode cL_rule 21 = .ok (.iconst 0, 1) := by decide +kernel
theorem dL_rule_22 : decode cL_rule 22 = .ok (.ireturn, 1) := by decide +kernel
/-- rule -/
theorem w_rule {ad : Nat → Nat} {r : am_R} {h : am_H} (x1 : Int32) (x2 : Int32) {d c mc ms : Nat} {a : Int32} {P : am_R → am_H → Prop} (hP : ∀ r' h' g, P r' h' → P r' (am_row h' 335 g)) (hX : am_XM mX11_rule d mc ms [.ref 0, .int x1, .int x2] (am_VV ad) r h (ex_ret c a P) (ex_thr ["java/lang/IndexOutOfBoundsException", "java/util/NoSuchElementException"] c P)) : am_WM mL_rule hL_rule (d + 1) mc ms [.ref 0, .int x1, .int x2, .ref 335] (am_VV ad) r h (ex_w c a P) := by
  refine am_WM.of (by decide +kernel) (Nat.le_of_ble_eq_true rfl) (fun X C T => ?_)
  show am_G X (am_VV ad) (0, 0) 0 [(0, .ref 0), (1, .int x1), (2, .int x2), (3, .ref 335)] [] r h
  refine w0_aload_n (pc := 0) C dL_rule_0 rfl ?_
  refine w0_iconst (pc := 1) (n := 0) C dL_rule_1 ?_
  refine w0_aload_n (pc := 2) C dL_rule_2 rfl ?_
  refine w0_iload_n (pc := 3) C dL_rule_3 rfl ?_
  refine w0_iload_n (pc := 4) C dL_rule_4 rfl ?_
  refine w0_callVX (Y := mX11_rule) (pc := 5) (st := [.int (nI 0), .ref 335]) (As := [.int x1, .int x2]) C dL_rule_5 (am_mem 1259 (by decide +kernel) rfl) v_X11_rule rfl rfl bn_0 sh_0 ⟨by decide, rfl⟩ (Nat.le_refl _) (Nat.le_of_eq (Nat.zero_add _)) (Nat.le_of_eq (Nat.zero_add _)) (Nat.le_of_ble_eq_true rfl) hX (fun E r1 h1 hq => ?_) (fun v r1 h1 hq => ?_)
  · obtain ⟨k, rfl, hk, hp⟩ := hq
    by_cases e0 : k = 0
    · subst e0
      obtain rfl : "java/lang/IndexOutOfBoundsException" = E := Option.some.inj hk
      exact w0_catch (k := 1) (n := 4) (n2 := 15) C T (Nat.le_of_eq (Nat.zero_add _)) (Nat.le_of_eq (Nat.zero_add _)) ⟨rfl, hp, fun z => absurd z (by omega)⟩ [] [(0, 10, 17, 26)] (0, 10, 13, 24) rfl (fun z hz => nomatch hz) ⟨Nat.zero_le _, by decide⟩ (by decide) (am_mem 1130 (by decide +kernel) rfl) (am_nw 1142 (by decide +kernel) rfl) (by decide) (Or.inl ⟨dL_rule_13, rfl⟩) dL_rule_15 dL_rule_16 rfl
    by_cases e1 : k = 1
    · subst e1
      obtain rfl : "java/util/NoSuchElementException" = E := Option.some.inj hk
      exact w0_catch (k := 2) (n := 4) (n2 := 19) C T (Nat.le_of_eq (Nat.zero_add _)) (Nat.le_of_eq (Nat.zero_add _)) ⟨rfl, hp, fun z => absurd z (by omega)⟩ [(0, 10, 13, 24)] [] (0, 10, 17, 26) rfl (List.forall_mem_cons.mpr ⟨⟨by decide, "java/lang/IndexOutOfBoundsException", am_mem 1130 (by decide +kernel) rfl, List.mem_of_getElem? (i := 10) rfl⟩, (fun z hz => nomatch hz)⟩) ⟨Nat.zero_le _, by decide⟩ (by decide) (am_mem 1131 (by decide +kernel) rfl) (am_nw 1168 (by decide +kernel) rfl) (by decide) (Or.inl ⟨dL_rule_17, rfl⟩) dL_rule_19 dL_rule_20 rfl
    exact absurd ((List.getElem?_eq_some_iff.mp hk).1) (by show ¬ k < 2; omega)
  · obtain ⟨rfl, rfl, hp⟩ := hq
    refine w0_i2l (pc := 8) C dL_rule_8 ?_
    refine w0_lastore (pc := 9) C dL_rule_9 bn_335 sh_335 (vp_in_nI (by decide) (by decide)) ?_
    refine w0_goto (pc := 10) (tgt := 21) C dL_rule_10 (by decide) ?_
    refine w0_iconst (pc := 21) (n := 0) C dL_rule_21 ?_
    have eu : am_up h1 335 (nI 0).toNatClampNeg a = am_row h1 335 (upd (h1 335) 0 a) := by rw [nI_clamp (by decide)]; exact am_up_rw _ _ _ _
    rw [eu]
    exact w0_iret (pc := 22) T dL_rule_22 rfl (Nat.le_of_eq (Nat.zero_add _)) (Nat.le_of_eq (Nat.zero_add _)) ⟨rfl, hP _ _ _ hp, fun _ => by rw [am_row_at]; exact rf_upd_eq⟩
abbrev hL_hours : List (Nat × Nat × Nat × Nat) := [(0, 9, 12, 13)]
theorem dL_hours_0 : decode cL_hours 0 = .ok (.aload_n 2, 1) := by decide +kernel
theorem dL_hours_1 : decode cL_hours 1 = .ok (.iconst 0, 1) := by decide +kernel
theorem dL_hours_2 : decode cL_hours 2 = .ok (.aload_n 0, 1) := by decide +kernel
theorem dL_hours_3 : decode cL_hours 3 = .ok (.iload_n 1, 1) := by decide +kernel
theorem dL_hours_4 : decode cL_hours 4 = .ok (.invokevirtual 46, 3) := by decide +kernel
theorem dL_hours_7 : decode cL_hours 7 = .ok (.i2l, 1) := by decide +kernel
theorem dL_hours_8 : decode cL_hours 8 = .ok (.lastore, 1) := by decide +kernel
theorem dL_hours_9 : decode cL_hours 9 = .ok (.goto 6, 3) := by decide +kernel
theorem dL_hours_12 : decode cL_hours 12 = .ok (.astore_n 3, 1) := by decide +kernel
theorem dL_hours_13 : decode cL_hours 13 = .ok (.iconst 1, 1) := by decide +kernel
theorem dL_hours_14 : decode cL_hours 14 = .ok (.ireturn, 1) := by decide +kernel
theorem dL_hours_15 : decode cL_hours 15 = .ok (.iconst 0, 1) := by decide +kernel
theorem dL_hours_16 : decode cL_hours 16 = .ok (.ireturn, 1) := by decide +kernel
/-- hours -/
theorem w_hours {ad : Nat → Nat} {r : am_R} {h : am_H} (x1 : Int32) {d c mc ms : Nat} {a : Int32} {P : am_R → am_H → Prop} (hP : ∀ r' h' g, P r' h' → P r' (am_row h' 335 g)) (hX : am_XM mX11_hours d mc ms [.ref 0, .int x1] (am_VV ad) r h (ex_ret c a P) (ex_thr ["java/lang/IllegalArgumentException"] c P)) : am_WM mL_hours hL_hours (d + 1) mc ms [.ref 0, .int x1, .ref 335] (am_VV ad) r h (ex_w c a P) := by
  refine am_WM.of (by decide +kernel) (Nat.le_of_ble_eq_true rfl) (fun X C T => ?_)
  show am_G X (am_VV ad) (0, 0) 0 [(0, .ref 0), (1, .int x1), (2, .ref 335)] [] r h
  refine w0_aload_n (pc := 0) C dL_hours_0 rfl ?_
  refine w0_iconst (pc := 1) (n := 0) C dL_hours_1 ?_
  refine w0_aload_n (pc := 2) C dL_hours_2 rfl ?_
  refine w0_iload_n (pc := 3) C dL_hours_3 rfl ?_
  refine w0_callVX (Y := mX11_hours) (pc := 4) (st := [.int (nI 0), .ref 335]) (As := [.int x1]) C dL_hours_4 (am_mem 1304 (by decide +kernel) rfl) v_X11_hours rfl rfl bn_0 sh_0 ⟨by decide, rfl⟩ (Nat.le_refl _) (Nat.le_of_eq (Nat.zero_add _)) (Nat.le_of_eq (Nat.zero_add _)) (Nat.le_of_ble_eq_true rfl) hX (fun E r1 h1 hq => ?_) (fun v r1 h1 hq => ?_)
  · obtain ⟨k, rfl, hk, hp⟩ := hq
    by_cases e0 : k = 0
    · subst e0
      obtain rfl : "java/lang/IllegalArgumentException" = E := Option.some.inj hk
      exact w0_catch (k := 1) (n := 3) (n2 := 13) C T (Nat.le_of_eq (Nat.zero_add _)) (Nat.le_of_eq (Nat.zero_add _)) ⟨rfl, hp, fun z => absurd z (by omega)⟩ [] [] (0, 9, 12, 13) rfl (fun z hz => nomatch hz) ⟨Nat.zero_le _, by decide⟩ (by decide) (am_mem 776 (by decide +kernel) rfl) (am_nw 960 (by decide +kernel) rfl) (by decide) (Or.inr ⟨3, dL_hours_12, rfl, rfl⟩) dL_hours_13 dL_hours_14 rfl
    exact absurd ((List.getElem?_eq_some_iff.mp hk).1) (by show ¬ k < 1; omega)
  · obtain ⟨rfl, rfl, hp⟩ := hq
    refine w0_i2l (pc := 7) C dL_hours_7 ?_
    refine w0_lastore (pc := 8) C dL_hours_8 bn_335 sh_335 (vp_in_nI (by decide) (by decide)) ?_
    refine w0_goto (pc := 9) (tgt := 15) C dL_hours_9 (by decide) ?_
    refine w0_iconst (pc := 15) (n := 0) C dL_hours_15 ?_
    have eu : am_up h1 335 (nI 0).toNatClampNeg a = am_row h1 335 (upd (h1 335) 0 a) := by rw [nI_clamp (by decide)]; exact am_up_rw _ _ _ _
    rw [eu]
    exact w0_iret (pc := 16) T dL_hours_16 rfl (Nat.le_of_eq (Nat.zero_add _)) (Nat.le_of_eq (Nat.zero_add _)) ⟨rfl, hP _ _ _ hp, fun _ => by rw [am_row_at]; exact rf_upd_eq⟩
abbrev hL_shoot : List (Nat × Nat × Nat × Nat) := [(0, 12, 15, 24), (0, 12, 19, 13), (0, 12, 23, 54)]
theorem dL_shoot_0 : decode cL_shoot 0 = .ok (.aload 4, 2) := by decide +kernel
theorem dL_shoot_2 : decode cL_shoot 2 = .ok (.iconst 0, 1) := by decide +kernel
theorem dL_shoot_3 : decode cL_shoot 3 = .ok (.aload_n 0, 1) := by decide +kernel
theorem dL_shoot_4 : decode cL_shoot 4 = .ok (.iload_n 1, 1) := by decide +kernel
theorem dL_shoot_5 : decode cL_shoot 5 = .ok (.iload_n 2, 1) := by decide +kernel
theorem dL_shoot_6 : decode cL_shoot 6 = .ok (.iload_n 3, 1) := by decide +kernel
theorem dL_shoot_7 : decode cL_shoot 7 = .ok (.invokevirtual 50, 3) := by decide +kernel
theorem dL_shoot_10 : decode cL_shoot 10 = .ok (.i2l, 1) := by decide +kernel
theorem dL_shoot_11 : decode cL_shoot 11 = .ok (.lastore, 1) := by decide +kernel
theorem dL_shoot_12 : decode cL_shoot 12 = .ok (.goto 15, 3) := by decide +kernel
theorem dL_shoot_15 : decode cL_shoot 15 = .ok (.astore 5, 2) := by decide +kernel
theorem dL_shoot_17 : decode cL_shoot 17 = .ok (.iconst 1, 1) := by decide +kernel
theorem dL_shoot_18 : decode cL_shoot 18 = .ok (.ireturn, 1) := by decide +kernel
theorem dL_shoot_19 : decode cL_shoot 19 = .ok (.astore 5, 2) := by decide +kernel
theorem dL_shoot_21 : decode cL_shoot 21 = .ok (.iconst 2, 1) := by decide +kernel
theorem dL_shoot_22 : decode cL_shoot 22 = .ok (.ireturn, 1) := by decide +kernel
theorem dL_shoot_23 : decode cL_shoot 23 = .ok (.astore 5, 2) := by decide +kernel
theorem dL_shoot_25 : decode cL_shoot 25 = .ok (.iconst 3, 1) := by decide +kernel
theorem dL_shoot_26 : decode cL_shoot 26 = .ok (.ireturn, 1) := by decide +kernel
theorem dL_shoot_27 : decode cL_shoot 27 = .ok (.iconst 0, 1) := by decide +kernel
theorem dL_shoot_28 : decode cL_shoot 28 = .ok (.ireturn, 1) := by decide +kernel
/-- shoot -/
theorem w_shoot {ad : Nat → Nat} {r : am_R} {h : am_H} (x1 : Int32) (x2 : Int32) (x3 : Int32) {d c mc ms : Nat} {a : Int32} {P : am_R → am_H → Prop} (hP : ∀ r' h' g, P r' h' → P r' (am_row h' 335 g)) (hX : am_XM mX11_shoot d mc ms [.ref 0, .int x1, .int x2, .int x3] (am_VV ad) r h (ex_ret c a P) (ex_thr ["java/lang/IndexOutOfBoundsException", "java/lang/IllegalArgumentException", "java/lang/IllegalStateException"] c P)) : am_WM mL_shoot hL_shoot (d + 1) mc ms [.ref 0, .int x1, .int x2, .int x3, .ref 335] (am_VV ad) r h (ex_w c a P) := by
  refine am_WM.of (by decide +kernel) (Nat.le_of_ble_eq_true rfl) (fun X C T => ?_)
  show am_G X (am_VV ad) (0, 0) 0 [(0, .ref 0), (1, .int x1), (2, .int x2), (3, .int x3), (4, .ref 335)] [] r h
  refine w0_aload (pc := 0) C dL_shoot_0 rfl ?_
  refine w0_iconst (pc := 2) (n := 0) C dL_shoot_2 ?_
  refine w0_aload_n (pc := 3) C dL_shoot_3 rfl ?_
  refine w0_iload_n (pc := 4) C dL_shoot_4 rfl ?_
  refine w0_iload_n (pc := 5) C dL_shoot_5 rfl ?_
  refine w0_iload_n (pc := 6) C dL_shoot_6 rfl ?_
  refine w0_callVX (Y := mX11_shoot) (pc := 7) (st := [.int (nI 0), .ref 335]) (As := [.int x1, .int x2, .int x3]) C dL_shoot_7 (am_mem 1384 (by decide +kernel) rfl) v_X11_shoot rfl rfl bn_0 sh_0 ⟨by decide, rfl⟩ (Nat.le_refl _) (Nat.le_of_eq (Nat.zero_add _)) (Nat.le_of_eq (Nat.zero_add _)) (Nat.le_of_ble_eq_true rfl) hX (fun E r1 h1 hq => ?_) (fun v r1 h1 hq => ?_)
  · obtain ⟨k, rfl, hk, hp⟩ := hq
    by_cases e0 : k = 0
    · subst e0
      obtain rfl : "java/lang/IndexOutOfBoundsException" = E := Option.some.inj hk
      exact w0_catch (k := 1) (n := 5) (n2 := 17) C T (Nat.le_of_eq (Nat.zero_add _)) (Nat.le_of_eq (Nat.zero_add _)) ⟨rfl, hp, fun z => absurd z (by omega)⟩ [] [(0, 12, 19, 13), (0, 12, 23, 54)] (0, 12, 15, 24) rfl (fun z hz => nomatch hz) ⟨Nat.zero_le _, by decide⟩ (by decide) (am_mem 1130 (by decide +kernel) rfl) (am_nw 1142 (by decide +kernel) rfl) (by decide) (Or.inl ⟨dL_shoot_15, rfl⟩) dL_shoot_17 dL_shoot_18 rfl
    by_cases e1 : k = 1
    · subst e1
      obtain rfl : "java/lang/IllegalArgumentException" = E := Option.some.inj hk
      exact w0_catch (k := 2) (n := 5) (n2 := 21) C T (Nat.le_of_eq (Nat.zero_add _)) (Nat.le_of_eq (Nat.zero_add _)) ⟨rfl, hp, fun z => absurd z (by omega)⟩ [(0, 12, 15, 24)] [(0, 12, 23, 54)] (0, 12, 19, 13) rfl (List.forall_mem_cons.mpr ⟨⟨by decide, "java/lang/IndexOutOfBoundsException", am_mem 1130 (by decide +kernel) rfl, List.mem_of_getElem? (i := 8) rfl⟩, (fun z hz => nomatch hz)⟩) ⟨Nat.zero_le _, by decide⟩ (by decide) (am_mem 776 (by decide +kernel) rfl) (am_nw 960 (by decide +kernel) rfl) (by decide) (Or.inl ⟨dL_shoot_19, rfl⟩) dL_shoot_21 dL_shoot_22 rfl
    by_cases e2 : k = 2
    · subst e2
      obtain rfl : "java/lang/IllegalStateException" = E := Option.some.inj hk
      exact w0_catch (k := 3) (n := 5) (n2 := 25) C T (Nat.le_of_eq (Nat.zero_add _)) (Nat.le_of_eq (Nat.zero_add _)) ⟨rfl, hp, fun z => absurd z (by omega)⟩ [(0, 12, 15, 24), (0, 12, 19, 13)] [] (0, 12, 23, 54) rfl (List.forall_mem_cons.mpr ⟨⟨by decide, "java/lang/IndexOutOfBoundsException", am_mem 1130 (by decide +kernel) rfl, List.mem_of_getElem? (i := 11) rfl⟩, (List.forall_mem_cons.mpr ⟨⟨by decide, "java/lang/IllegalArgumentException", am_mem 776 (by decide +kernel) rfl, List.mem_of_getElem? (i := 3) rfl⟩, (fun z hz => nomatch hz)⟩)⟩) ⟨Nat.zero_le _, by decide⟩ (by decide) (am_mem 1383 (by decide +kernel) rfl) (am_nw 1400 (by decide +kernel) rfl) (by decide) (Or.inl ⟨dL_shoot_23, rfl⟩) dL_shoot_25 dL_shoot_26 rfl
    exact absurd ((List.getElem?_eq_some_iff.mp hk).1) (by show ¬ k < 3; omega)
  · obtain ⟨rfl, rfl, hp⟩ := hq
    refine w0_i2l (pc := 10) C dL_shoot_10 ?_
    refine w0_lastore (pc := 11) C dL_shoot_11 bn_335 sh_335 (vp_in_nI (by decide) (by decide)) ?_
    refine w0_goto (pc := 12) (tgt := 27) C dL_shoot_12 (by decide) ?_
    refine w0_iconst (pc := 27) (n := 0) C dL_shoot_27 ?_
    have eu : am_up h1 335 (nI 0).toNatClampNeg a = am_row h1 335 (upd (h1 335) 0 a) := by rw [nI_clamp (by decide)]; exact am_up_rw _ _ _ _
    rw [eu]
    exact w0_iret (pc := 28) T dL_shoot_28 rfl (Nat.le_of_eq (Nat.zero_add _)) (Nat.le_of_eq (Nat.zero_add _)) ⟨rfl, hP _ _ _ hp, fun _ => by rw [am_row_at]; exact rf_upd_eq⟩
abbrev hL_teach : List (Nat × Nat × Nat × Nat) := [(0, 12, 15, 24), (0, 12, 19, 13), (0, 12, 23, 54)]
theorem dL_teach_0 : decode cL_teach 0 = .ok (.aload 4, 2) := by decide +kernel
theorem dL_teach_2 : decode cL_teach 2 = .ok (.iconst 0, 1) := by decide +kernel
theorem dL_teach_3 : decode cL_teach 3 = .ok (.aload_n 0, 1) := by decide +kernel
theorem dL_teach_4 : decode cL_teach 4 = .ok (.iload_n 1, 1) := by decide +kernel
theorem dL_teach_5 : decode cL_teach 5 = .ok (.iload_n 2, 1) := by decide +kernel
theorem dL_teach_6 : decode cL_teach 6 = .ok (.iload_n 3, 1) := by decide +kernel
theorem dL_teach_7 : decode cL_teach 7 = .ok (.invokevirtual 56, 3) := by decide +kernel
theorem dL_teach_10 : decode cL_teach 10 = .ok (.i2l, 1) := by decide +kernel
theorem dL_teach_11 : decode cL_teach 11 = .ok (.lastore, 1) := by decide +kernel
theorem dL_teach_12 : decode cL_teach 12 = .ok (.goto 15, 3) := by decide +kernel
theorem dL_teach_15 : decode cL_teach 15 = .ok (.astore 5, 2) := by decide +kernel
theorem dL_teach_17 : decode cL_teach 17 = .ok (.iconst 1, 1) := by decide +kernel
theorem dL_teach_18 : decode cL_teach 18 = .ok (.ireturn, 1) := by decide +kernel
theorem dL_teach_19 : decode cL_teach 19 = .ok (.astore 5, 2) := by decide +kernel
theorem dL_teach_21 : decode cL_teach 21 = .ok (.iconst 2, 1) := by decide +kernel
theorem dL_teach_22 : decode cL_teach 22 = .ok (.ireturn, 1) := by decide +kernel
theorem dL_teach_23 : decode cL_teach 23 = .ok (.astore 5, 2) := by decide +kernel
theorem dL_teach_25 : decode cL_teach 25 = .ok (.iconst 3, 1) := by decide +kernel
theorem dL_teach_26 : decode cL_teach 26 = .ok (.ireturn, 1) := by decide +kernel
theorem dL_teach_27 : decode cL_teach 27 = .ok (.iconst 0, 1) := by decide +kernel
theorem dL_teach_28 : decode cL_teach 28 = .ok (.ireturn, 1) := by decide +kernel
/-- teach -/
theorem w_teach {ad : Nat → Nat} {r : am_R} {h : am_H} (x1 : Int32) (x2 : Int32) (x3 : Int32) {d c mc ms : Nat} {a : Int32} {P : am_R → am_H → Prop} (hP : ∀ r' h' g, P r' h' → P r' (am_row h' 335 g)) (hX : am_XM mX11_teach d mc ms [.ref 0, .int x1, .int x2, .int x3] (am_VV ad) r h (ex_ret c a P) (ex_thr ["java/lang/IndexOutOfBoundsException", "java/lang/IllegalArgumentException", "java/lang/IllegalStateException"] c P)) : am_WM mL_teach hL_teach (d + 1) mc ms [.ref 0, .int x1, .int x2, .int x3, .ref 335] (am_VV ad) r h (ex_w c a P) := by
  refine am_WM.of (by decide +kernel) (Nat.le_of_ble_eq_true rfl) (fun X C T => ?_)
  show am_G X (am_VV ad) (0, 0) 0 [(0, .ref 0), (1, .int x1), (2, .int x2), (3, .int x3), (4, .ref 335)] [] r h
  refine w0_aload (pc := 0) C dL_teach_0 rfl ?_
  refine w0_iconst (pc := 2) (n := 0) C dL_teach_2 ?_
  refine w0_aload_n (pc := 3) C dL_teach_3 rfl ?_
  refine w0_iload_n (pc := 4) C dL_teach_4 rfl ?_
  refine w0_iload_n (pc := 5) C dL_teach_5 rfl ?_
  refine w0_iload_n (pc := 6) C dL_teach_6 rfl ?_
  refine w0_callVX (Y := mX11_teach) (pc := 7) (st := [.int (nI 0), .ref 335]) (As := [.int x1, .int x2, .int x3]) C dL_teach_7 (am_mem 1418 (by decide +kernel) rfl) v_X11_teach rfl rfl bn_0 sh_0 ⟨by decide, rfl⟩ (Nat.le_refl _) (Nat.le_of_eq (Nat.zero_add _)) (Nat.le_of_eq (Nat.zero_add _)) (Nat.le_of_ble_eq_true rfl) hX (fun E r1 h1 hq => ?_) (fun v r1 h1 hq => ?_)
  · obtain ⟨k, rfl, hk, hp⟩ := hq
    by_cases e0 : k = 0
    · subst e0
      obtain rfl : "java/lang/IndexOutOfBoundsException" = E := Option.some.inj hk
      exact w0_catch (k := 1) (n := 5) (n2 := 17) C T (Nat.le_of_eq (Nat.zero_add _)) (Nat.le_of_eq (Nat.zero_add _)) ⟨rfl, hp, fun z => absurd z (by omega)⟩ [] [(0, 12, 19, 13), (0, 12, 23, 54)] (0, 12, 15, 24) rfl (fun z hz => nomatch hz) ⟨Nat.zero_le _, by decide⟩ (by decide) (am_mem 1130 (by decide +kernel) rfl) (am_nw 1142 (by decide +kernel) rfl) (by decide) (Or.inl ⟨dL_teach_15, rfl⟩) dL_teach_17 dL_teach_18 rfl
    by_cases e1 : k = 1
    · subst e1
      obtain rfl : "java/lang/IllegalArgumentException" = E := Option.some.inj hk
      exact w0_catch (k := 2) (n := 5) (n2 := 21) C T (Nat.le_of_eq (Nat.zero_add _)) (Nat.le_of_eq (Nat.zero_add _)) ⟨rfl, hp, fun z => absurd z (by omega)⟩ [(0, 12, 15, 24)] [(0, 12, 23, 54)] (0, 12, 19, 13) rfl (List.forall_mem_cons.mpr ⟨⟨by decide, "java/lang/IndexOutOfBoundsException", am_mem 1130 (by decide +kernel) rfl, List.mem_of_getElem? (i := 8) rfl⟩, (fun z hz => nomatch hz)⟩) ⟨Nat.zero_le _, by decide⟩ (by decide) (am_mem 776 (by decide +kernel) rfl) (am_nw 960 (by decide +kernel) rfl) (by decide) (Or.inl ⟨dL_teach_19, rfl⟩) dL_teach_21 dL_teach_22 rfl
    by_cases e2 : k = 2
    · subst e2
      obtain rfl : "java/lang/IllegalStateException" = E := Option.some.inj hk
      exact w0_catch (k := 3) (n := 5) (n2 := 25) C T (Nat.le_of_eq (Nat.zero_add _)) (Nat.le_of_eq (Nat.zero_add _)) ⟨rfl, hp, fun z => absurd z (by omega)⟩ [(0, 12, 15, 24), (0, 12, 19, 13)] [] (0, 12, 23, 54) rfl (List.forall_mem_cons.mpr ⟨⟨by decide, "java/lang/IndexOutOfBoundsException", am_mem 1130 (by decide +kernel) rfl, List.mem_of_getElem? (i := 11) rfl⟩, (List.forall_mem_cons.mpr ⟨⟨by decide, "java/lang/IllegalArgumentException", am_mem 776 (by decide +kernel) rfl, List.mem_of_getElem? (i := 3) rfl⟩, (fun z hz => nomatch hz)⟩)⟩) ⟨Nat.zero_le _, by decide⟩ (by decide) (am_mem 1383 (by decide +kernel) rfl) (am_nw 1400 (by decide +kernel) rfl) (by decide) (Or.inl ⟨dL_teach_23, rfl⟩) dL_teach_25 dL_teach_26 rfl
    exact absurd ((List.getElem?_eq_some_iff.mp hk).1) (by show ¬ k < 3; omega)
  · obtain ⟨rfl, rfl, hp⟩ := hq
    refine w0_i2l (pc := 10) C dL_teach_10 ?_
    refine w0_lastore (pc := 11) C dL_teach_11 bn_335 sh_335 (vp_in_nI (by decide) (by decide)) ?_
    refine w0_goto (pc := 12) (tgt := 27) C dL_teach_12 (by decide) ?_
    refine w0_iconst (pc := 27) (n := 0) C dL_teach_27 ?_
    have eu : am_up h1 335 (nI 0).toNatClampNeg a = am_row h1 335 (upd (h1 335) 0 a) := by rw [nI_clamp (by decide)]; exact am_up_rw _ _ _ _
    rw [eu]
    exact w0_iret (pc := 28) T dL_teach_28 rfl (Nat.le_of_eq (Nat.zero_add _)) (Nat.le_of_eq (Nat.zero_add _)) ⟨rfl, hP _ _ _ hp, fun _ => by rw [am_row_at]; exact rf_upd_eq⟩
abbrev hL_gather : List (Nat × Nat × Nat × Nat) := [(0, 10, 13, 24), (0, 10, 17, 54)]
theorem dL_gather_0 : decode cL_gather 0 = .ok (.aload_n 3, 1) := by decide +kernel
theorem dL_gather_1 : decode cL_gather 1 = .ok (.iconst 0, 1) := by decide +kernel
theorem dL_gather_2 : decode cL_gather 2 = .ok (.aload_n 0, 1) := by decide +kernel
theorem dL_gather_3 : decode cL_gather 3 = .ok (.iload_n 1, 1) := by decide +kernel
theorem dL_gather_4 : decode cL_gather 4 = .ok (.iload_n 2, 1) := by decide +kernel
theorem dL_gather_5 : decode cL_gather 5 = .ok (.invokevirtual 60, 3) := by decide +kernel
theorem dL_gather_8 : decode cL_gather 8 = .ok (.i2l, 1) := by decide +kernel
theorem dL_gather_9 : decode cL_gather 9 = .ok (.lastore, 1) := by decide +kernel
theorem dL_gather_10 : decode cL_gather 10 = .ok (.goto 11, 3) := by decide +kernel
theorem dL_gather_13 : decode cL_gather 13 = .ok (.astore 4, 2) := by decide +kernel
theorem dL_gather_15 : decode cL_gather 15 = .ok (.iconst 1, 1) := by decide +kernel
theorem dL_gather_16 : decode cL_gather 16 = .ok (.ireturn, 1) := by decide +kernel
theorem dL_gather_17 : decode cL_gather 17 = .ok (.astore 4, 2) := by decide +kernel
theorem dL_gather_19 : decode cL_gather 19 = .ok (.iconst 2, 1) := by decide +kernel
theorem dL_gather_20 : decode cL_gather 20 = .ok (.ireturn, 1) := by decide +kernel
theorem dL_gather_21 : decode cL_gather 21 = .ok (.iconst 0, 1) := by decide +kernel
theorem dL_gather_22 : decode cL_gather 22 = .ok (.ireturn, 1) := by decide +kernel
/-- gather -/
theorem w_gather {ad : Nat → Nat} {r : am_R} {h : am_H} (x1 : Int32) (x2 : Int32) {d c mc ms : Nat} {a : Int32} {P : am_R → am_H → Prop} (hP : ∀ r' h' g, P r' h' → P r' (am_row h' 335 g)) (hX : am_XM mX11_gather d mc ms [.ref 0, .int x1, .int x2] (am_VV ad) r h (ex_ret c a P) (ex_thr ["java/lang/IndexOutOfBoundsException", "java/lang/IllegalStateException"] c P)) : am_WM mL_gather hL_gather (d + 1) mc ms [.ref 0, .int x1, .int x2, .ref 335] (am_VV ad) r h (ex_w c a P) := by
  refine am_WM.of (by decide +kernel) (Nat.le_of_ble_eq_true rfl) (fun X C T => ?_)
  show am_G X (am_VV ad) (0, 0) 0 [(0, .ref 0), (1, .int x1), (2, .int x2), (3, .ref 335)] [] r h
  refine w0_aload_n (pc := 0) C dL_gather_0 rfl ?_
  refine w0_iconst (pc := 1) (n := 0) C dL_gather_1 ?_
  refine w0_aload_n (pc := 2) C dL_gather_2 rfl ?_
  refine w0_iload_n (pc := 3) C dL_gather_3 rfl ?_
  refine w0_iload_n (pc := 4) C dL_gather_4 rfl ?_
  refine w0_callVX (Y := mX11_gather) (pc := 5) (st := [.int (nI 0), .ref 335]) (As := [.int x1, .int x2]) C dL_gather_5 (am_mem 1429 (by decide +kernel) rfl) v_X11_gather rfl rfl bn_0 sh_0 ⟨by decide, rfl⟩ (Nat.le_refl _) (Nat.le_of_eq (Nat.zero_add _)) (Nat.le_of_eq (Nat.zero_add _)) (Nat.le_of_ble_eq_true rfl) hX (fun E r1 h1 hq => ?_) (fun v r1 h1 hq => ?_)
  · obtain ⟨k, rfl, hk, hp⟩ := hq
    by_cases e0 : k = 0
    · subst e0
      obtain rfl : "java/lang/IndexOutOfBoundsException" = E := Option.some.inj hk
      exact w0_catch (k := 1) (n := 4) (n2 := 15) C T (Nat.le_of_eq (Nat.zero_add _)) (Nat.le_of_eq (Nat.zero_add _)) ⟨rfl, hp, fun z => absurd z (by omega)⟩ [] [(0, 10, 17, 54)] (0, 10, 13, 24) rfl (fun z hz => nomatch hz) ⟨Nat.zero_le _, by decide⟩ (by decide) (am_mem 1130 (by decide +kernel) rfl) (am_nw 1142 (by decide +kernel) rfl) (by decide) (Or.inl ⟨dL_gather_13, rfl⟩) dL_gather_15 dL_gather_16 rfl
    by_cases e1 : k = 1
    · subst e1
      obtain rfl : "java/lang/IllegalStateException" = E := Option.some.inj hk
      exact w0_catch (k := 2) (n := 4) (n2 := 19) C T (Nat.le_of_eq (Nat.zero_add _)) (Nat.le_of_eq (Nat.zero_add _)) ⟨rfl, hp, fun z => absurd z (by omega)⟩ [(0, 10, 13, 24)] [] (0, 10, 17, 54) rfl (List.forall_mem_cons.mpr ⟨⟨by decide, "java/lang/IndexOutOfBoundsException", am_mem 1130 (by decide +kernel) rfl, List.mem_of_getElem? (i := 11) rfl⟩, (fun z hz => nomatch hz)⟩) ⟨Nat.zero_le _, by decide⟩ (by decide) (am_mem 1383 (by decide +kernel) rfl) (am_nw 1400 (by decide +kernel) rfl) (by decide) (Or.inl ⟨dL_gather_17, rfl⟩) dL_gather_19 dL_gather_20 rfl
    exact absurd ((List.getElem?_eq_some_iff.mp hk).1) (by show ¬ k < 2; omega)
  · obtain ⟨rfl, rfl, hp⟩ := hq
    refine w0_i2l (pc := 8) C dL_gather_8 ?_
    refine w0_lastore (pc := 9) C dL_gather_9 bn_335 sh_335 (vp_in_nI (by decide) (by decide)) ?_
    refine w0_goto (pc := 10) (tgt := 21) C dL_gather_10 (by decide) ?_
    refine w0_iconst (pc := 21) (n := 0) C dL_gather_21 ?_
    have eu : am_up h1 335 (nI 0).toNatClampNeg a = am_row h1 335 (upd (h1 335) 0 a) := by rw [nI_clamp (by decide)]; exact am_up_rw _ _ _ _
    rw [eu]
    exact w0_iret (pc := 22) T dL_gather_22 rfl (Nat.le_of_eq (Nat.zero_add _)) (Nat.le_of_eq (Nat.zero_add _)) ⟨rfl, hP _ _ _ hp, fun _ => by rw [am_row_at]; exact rf_upd_eq⟩
abbrev hL_read : List (Nat × Nat × Nat × Nat) := [(0, 9, 12, 24), (0, 9, 15, 54)]
theorem dL_read_0 : decode cL_read 0 = .ok (.aload_n 2, 1) := by decide +kernel
theorem dL_read_1 : decode cL_read 1 = .ok (.iconst 0, 1) := by decide +kernel
theorem dL_read_2 : decode cL_read 2 = .ok (.aload_n 0, 1) := by decide +kernel
theorem dL_read_3 : decode cL_read 3 = .ok (.iload_n 1, 1) := by decide +kernel
theorem dL_read_4 : decode cL_read 4 = .ok (.invokevirtual 63, 3) := by decide +kernel
theorem dL_read_7 : decode cL_read 7 = .ok (.i2l, 1) := by decide +kernel
theorem dL_read_8 : decode cL_read 8 = .ok (.lastore, 1) := by decide +kernel
theorem dL_read_9 : decode cL_read 9 = .ok (.goto 9, 3) := by decide +kernel
theorem dL_read_12 : decode cL_read 12 = .ok (.astore_n 3, 1) := by decide +kernel
theorem dL_read_13 : decode cL_read 13 = .ok (.iconst 1, 1) := by decide +kernel
theorem dL_read_14 : decode cL_read 14 = .ok (.ireturn, 1) := by decide +kernel
theorem dL_read_15 : decode cL_read 15 = .ok (.astore_n 3, 1) := by decide +kernel
theorem dL_read_16 : decode cL_read 16 = .ok (.iconst 2, 1) := by decide +kernel
theorem dL_read_17 : decode cL_read 17 = .ok (.ireturn, 1) := by decide +kernel
theorem dL_read_18 : decode cL_read 18 = .ok (.iconst 0, 1) := by decide +kernel
theorem dL_read_19 : decode cL_read 19 = .ok (.ireturn, 1) := by decide +kernel
/-- read -/
theorem w_read {ad : Nat → Nat} {r : am_R} {h : am_H} (x1 : Int32) {d c mc ms : Nat} {a : Int32} {P : am_R → am_H → Prop} (hP : ∀ r' h' g, P r' h' → P r' (am_row h' 335 g)) (hX : am_XM mX11_read d mc ms [.ref 0, .int x1] (am_VV ad) r h (ex_ret c a P) (ex_thr ["java/lang/IndexOutOfBoundsException", "java/lang/IllegalStateException"] c P)) : am_WM mL_read hL_read (d + 1) mc ms [.ref 0, .int x1, .ref 335] (am_VV ad) r h (ex_w c a P) := by
  refine am_WM.of (by decide +kernel) (Nat.le_of_ble_eq_true rfl) (fun X C T => ?_)
  show am_G X (am_VV ad) (0, 0) 0 [(0, .ref 0), (1, .int x1), (2, .ref 335)] [] r h
  refine w0_aload_n (pc := 0) C dL_read_0 rfl ?_
  refine w0_iconst (pc := 1) (n := 0) C dL_read_1 ?_
  refine w0_aload_n (pc := 2) C dL_read_2 rfl ?_
  refine w0_iload_n (pc := 3) C dL_read_3 rfl ?_
  refine w0_callVX (Y := mX11_read) (pc := 4) (st := [.int (nI 0), .ref 335]) (As := [.int x1]) C dL_read_4 (am_mem 1443 (by decide +kernel) rfl) v_X11_read rfl rfl bn_0 sh_0 ⟨by decide, rfl⟩ (Nat.le_refl _) (Nat.le_of_eq (Nat.zero_add _)) (Nat.le_of_eq (Nat.zero_add _)) (Nat.le_of_ble_eq_true rfl) hX (fun E r1 h1 hq => ?_) (fun v r1 h1 hq => ?_)
  · obtain ⟨k, rfl, hk, hp⟩ := hq
    by_cases e0 : k = 0
    · subst e0
      obtain rfl : "java/lang/IndexOutOfBoundsException" = E := Option.some.inj hk
      exact w0_catch (k := 1) (n := 3) (n2 := 13) C T (Nat.le_of_eq (Nat.zero_add _)) (Nat.le_of_eq (Nat.zero_add _)) ⟨rfl, hp, fun z => absurd z (by omega)⟩ [] [(0, 9, 15, 54)] (0, 9, 12, 24) rfl (fun z hz => nomatch hz) ⟨Nat.zero_le _, by decide⟩ (by decide) (am_mem 1130 (by decide +kernel) rfl) (am_nw 1142 (by decide +kernel) rfl) (by decide) (Or.inr ⟨3, dL_read_12, rfl, rfl⟩) dL_read_13 dL_read_14 rfl
    by_cases e1 : k = 1
    · subst e1
      obtain rfl : "java/lang/IllegalStateException" = E := Option.some.inj hk
      exact w0_catch (k := 2) (n := 3) (n2 := 16) C T (Nat.le_of_eq (Nat.zero_add _)) (Nat.le_of_eq (Nat.zero_add _)) ⟨rfl, hp, fun z => absurd z (by omega)⟩ [(0, 9, 12, 24)] [] (0, 9, 15, 54) rfl (List.forall_mem_cons.mpr ⟨⟨by decide, "java/lang/IndexOutOfBoundsException", am_mem 1130 (by decide +kernel) rfl, List.mem_of_getElem? (i := 11) rfl⟩, (fun z hz => nomatch hz)⟩) ⟨Nat.zero_le _, by decide⟩ (by decide) (am_mem 1383 (by decide +kernel) rfl) (am_nw 1400 (by decide +kernel) rfl) (by decide) (Or.inr ⟨3, dL_read_15, rfl, rfl⟩) dL_read_16 dL_read_17 rfl
    exact absurd ((List.getElem?_eq_some_iff.mp hk).1) (by show ¬ k < 2; omega)
  · obtain ⟨rfl, rfl, hp⟩ := hq
    refine w0_i2l (pc := 7) C dL_read_7 ?_
    refine w0_lastore (pc := 8) C dL_read_8 bn_335 sh_335 (vp_in_nI (by decide) (by decide)) ?_
    refine w0_goto (pc := 9) (tgt := 18) C dL_read_9 (by decide) ?_
    refine w0_iconst (pc := 18) (n := 0) C dL_read_18 ?_
    have eu : am_up h1 335 (nI 0).toNatClampNeg a = am_row h1 335 (upd (h1 335) 0 a) := by rw [nI_clamp (by decide)]; exact am_up_rw _ _ _ _
    rw [eu]
    exact w0_iret (pc := 19) T dL_read_19 rfl (Nat.le_of_eq (Nat.zero_add _)) (Nat.le_of_eq (Nat.zero_add _)) ⟨rfl, hP _ _ _ hp, fun _ => by rw [am_row_at]; exact rf_upd_eq⟩
abbrev hL_field : List (Nat × Nat × Nat × Nat) := [(0, 10, 13, 24), (0, 10, 17, 26)]
theorem dL_field_0 : decode cL_field 0 = .ok (.aload_n 3, 1) := by decide +kernel
theorem dL_field_1 : decode cL_field 1 = .ok (.iconst 0, 1) := by decide +kernel
theorem dL_field_2 : decode cL_field 2 = .ok (.aload_n 0, 1) := by decide +kernel
theorem dL_field_3 : decode cL_field 3 = .ok (.iload_n 1, 1) := by decide +kernel
theorem dL_field_4 : decode cL_field 4 = .ok (.iload_n 2, 1) := by decide +kernel
theorem dL_field_5 : decode cL_field 5 = .ok (.invokevirtual 66, 3) := by decide +kernel
theorem dL_field_8 : decode cL_field 8 = .ok (.i2l, 1) := by decide +kernel
theorem dL_field_9 : decode cL_field 9 = .ok (.lastore, 1) := by decide +kernel
theorem dL_field_10 : decode cL_field 10 = .ok (.goto 11, 3) := by decide +kernel
theorem dL_field_13 : decode cL_field 13 = .ok (.astore 4, 2) := by decide +kernel
theorem dL_field_15 : decode cL_field 15 = .ok (.iconst 1, 1) := by decide +kernel
theorem dL_field_16 : decode cL_field 16 = .ok (.ireturn, 1) := by decide +kernel
theorem dL_field_17 : decode cL_field 17 = .ok (.astore 4, 2) := by decide +kernel
theorem dL_field_19 : decode cL_field 19 = .ok (.iconst 2, 1) := by decide +kernel
theorem dL_field_20 : decode cL_field 20 = .ok (.ireturn, 1) := by decide +kernel
theorem dL_field_21 : decode cL_field 21 = .ok (.iconst 0, 1) := by decide +kernel
theorem dL_field_22 : decode cL_field 22 = .ok (.ireturn, 1) := by decide +kernel
/-- field -/
theorem w_field {ad : Nat → Nat} {r : am_R} {h : am_H} (x1 : Int32) (x2 : Int32) {d c mc ms : Nat} {a : Int32} {P : am_R → am_H → Prop} (hP : ∀ r' h' g, P r' h' → P r' (am_row h' 335 g)) (hX : am_XM mX11_field d mc ms [.ref 0, .int x1, .int x2] (am_VV ad) r h (ex_ret c a P) (ex_thr ["java/lang/IndexOutOfBoundsException", "java/util/NoSuchElementException"] c P)) : am_WM mL_field hL_field (d + 1) mc ms [.ref 0, .int x1, .int x2, .ref 335] (am_VV ad) r h (ex_w c a P) := by
  refine am_WM.of (by decide +kernel) (Nat.le_of_ble_eq_true rfl) (fun X C T => ?_)
  show am_G X (am_VV ad) (0, 0) 0 [(0, .ref 0), (1, .int x1), (2, .int x2), (3, .ref 335)] [] r h
  refine w0_aload_n (pc := 0) C dL_field_0 rfl ?_
  refine w0_iconst (pc := 1) (n := 0) C dL_field_1 ?_
  refine w0_aload_n (pc := 2) C dL_field_2 rfl ?_
  refine w0_iload_n (pc := 3) C dL_field_3 rfl ?_
  refine w0_iload_n (pc := 4) C dL_field_4 rfl ?_
  refine w0_callVX (Y := mX11_field) (pc := 5) (st := [.int (nI 0), .ref 335]) (As := [.int x1, .int x2]) C dL_field_5 (am_mem 1452 (by decide +kernel) rfl) v_X11_field rfl rfl bn_0 sh_0 ⟨by decide, rfl⟩ (Nat.le_refl _) (Nat.le_of_eq (Nat.zero_add _)) (Nat.le_of_eq (Nat.zero_add _)) (Nat.le_of_ble_eq_true rfl) hX (fun E r1 h1 hq => ?_) (fun v r1 h1 hq => ?_)
  · obtain ⟨k, rfl, hk, hp⟩ := hq
    by_cases e0 : k = 0
    · subst e0
      obtain rfl : "java/lang/IndexOutOfBoundsException" = E := Option.some.inj hk
      exact w0_catch (k := 1) (n := 4) (n2 := 15) C T (Nat.le_of_eq (Nat.zero_add _)) (Nat.le_of_eq (Nat.zero_add _)) ⟨rfl, hp, fun z => absurd z (by omega)⟩ [] [(0, 10, 17, 26)] (0, 10, 13, 24) rfl (fun z hz => nomatch hz) ⟨Nat.zero_le _, by decide⟩ (by decide) (am_mem 1130 (by decide +kernel) rfl) (am_nw 1142 (by decide +kernel) rfl) (by decide) (Or.inl ⟨dL_field_13, rfl⟩) dL_field_15 dL_field_16 rfl
    by_cases e1 : k = 1
    · subst e1
      obtain rfl : "java/util/NoSuchElementException" = E := Option.some.inj hk
      exact w0_catch (k := 2) (n := 4) (n2 := 19) C T (Nat.le_of_eq (Nat.zero_add _)) (Nat.le_of_eq (Nat.zero_add _)) ⟨rfl, hp, fun z => absurd z (by omega)⟩ [(0, 10, 13, 24)] [] (0, 10, 17, 26) rfl (List.forall_mem_cons.mpr ⟨⟨by decide, "java/lang/IndexOutOfBoundsException", am_mem 1130 (by decide +kernel) rfl, List.mem_of_getElem? (i := 10) rfl⟩, (fun z hz => nomatch hz)⟩) ⟨Nat.zero_le _, by decide⟩ (by decide) (am_mem 1131 (by decide +kernel) rfl) (am_nw 1168 (by decide +kernel) rfl) (by decide) (Or.inl ⟨dL_field_17, rfl⟩) dL_field_19 dL_field_20 rfl
    exact absurd ((List.getElem?_eq_some_iff.mp hk).1) (by show ¬ k < 2; omega)
  · obtain ⟨rfl, rfl, hp⟩ := hq
    refine w0_i2l (pc := 8) C dL_field_8 ?_
    refine w0_lastore (pc := 9) C dL_field_9 bn_335 sh_335 (vp_in_nI (by decide) (by decide)) ?_
    refine w0_goto (pc := 10) (tgt := 21) C dL_field_10 (by decide) ?_
    refine w0_iconst (pc := 21) (n := 0) C dL_field_21 ?_
    have eu : am_up h1 335 (nI 0).toNatClampNeg a = am_row h1 335 (upd (h1 335) 0 a) := by rw [nI_clamp (by decide)]; exact am_up_rw _ _ _ _
    rw [eu]
    exact w0_iret (pc := 22) T dL_field_22 rfl (Nat.le_of_eq (Nat.zero_add _)) (Nat.le_of_eq (Nat.zero_add _)) ⟨rfl, hP _ _ _ hp, fun _ => by rw [am_row_at]; exact rf_upd_eq⟩
abbrev hL_plan : List (Nat × Nat × Nat × Nat) := [(0, 10, 13, 24)]
theorem dL_plan_0 : decode cL_plan 0 = .ok (.aload_n 3, 1) := by decide +kernel
theorem dL_plan_1 : decode cL_plan 1 = .ok (.iconst 0, 1) := by decide +kernel
theorem dL_plan_2 : decode cL_plan 2 = .ok (.aload_n 0, 1) := by decide +kernel
theorem dL_plan_3 : decode cL_plan 3 = .ok (.iload_n 1, 1) := by decide +kernel
theorem dL_plan_4 : decode cL_plan 4 = .ok (.iload_n 2, 1) := by decide +kernel
theorem dL_plan_5 : decode cL_plan 5 = .ok (.invokevirtual 69, 3) := by decide +kernel
theorem dL_plan_8 : decode cL_plan 8 = .ok (.i2l, 1) := by decide +kernel
theorem dL_plan_9 : decode cL_plan 9 = .ok (.lastore, 1) := by decide +kernel
theorem dL_plan_10 : decode cL_plan 10 = .ok (.goto 7, 3) := by decide +kernel
theorem dL_plan_13 : decode cL_plan 13 = .ok (.astore 4, 2) := by decide +kernel
theorem dL_plan_15 : decode cL_plan 15 = .ok (.iconst 1, 1) := by decide +kernel
theorem dL_plan_16 : decode cL_plan 16 = .ok (.ireturn, 1) := by decide +kernel
theorem dL_plan_17 : decode cL_plan 17 = .ok (.iconst 0, 1) := by decide +kernel
theorem dL_plan_18 : decode cL_plan 18 = .ok (.ireturn, 1) := by decide +kernel
/-- plan -/
theorem w_plan {ad : Nat → Nat} {r : am_R} {h : am_H} (x1 : Int32) (x2 : Int32) {d c mc ms : Nat} {a : Int32} {P : am_R → am_H → Prop} (hP : ∀ r' h' g, P r' h' → P r' (am_row h' 335 g)) (hX : am_XM mX11_plan d mc ms [.ref 0, .int x1, .int x2] (am_VV ad) r h (ex_ret c a P) (ex_thr ["java/lang/IndexOutOfBoundsException"] c P)) : am_WM mL_plan hL_plan (d + 1) mc ms [.ref 0, .int x1, .int x2, .ref 335] (am_VV ad) r h (ex_w c a P) := by
  refine am_WM.of (by decide +kernel) (Nat.le_of_ble_eq_true rfl) (fun X C T => ?_)
  show am_G X (am_VV ad) (0, 0) 0 [(0, .ref 0), (1, .int x1), (2, .int x2), (3, .ref 335)] [] r h
  refine w0_aload_n (pc := 0) C dL_plan_0 rfl ?_
  refine w0_iconst (pc := 1) (n := 0) C dL_plan_1 ?_
  refine w0_aload_n (pc := 2) C dL_plan_2 rfl ?_
  refine w0_iload_n (pc := 3) C dL_plan_3 rfl ?_
  refine w0_iload_n (pc := 4) C dL_plan_4 rfl ?_
  refine w0_callVX (Y := mX11_plan) (pc := 5) (st := [.int (nI 0), .ref 335]) (As := [.int x1, .int x2]) C dL_plan_5 (am_mem 1460 (by decide +kernel) rfl) v_X11_plan rfl rfl bn_0 sh_0 ⟨by decide, rfl⟩ (Nat.le_refl _) (Nat.le_of_eq (Nat.zero_add _)) (Nat.le_of_eq (Nat.zero_add _)) (Nat.le_of_ble_eq_true rfl) hX (fun E r1 h1 hq => ?_) (fun v r1 h1 hq => ?_)
  · obtain ⟨k, rfl, hk, hp⟩ := hq
    by_cases e0 : k = 0
    · subst e0
      obtain rfl : "java/lang/IndexOutOfBoundsException" = E := Option.some.inj hk
      exact w0_catch (k := 1) (n := 4) (n2 := 15) C T (Nat.le_of_eq (Nat.zero_add _)) (Nat.le_of_eq (Nat.zero_add _)) ⟨rfl, hp, fun z => absurd z (by omega)⟩ [] [] (0, 10, 13, 24) rfl (fun z hz => nomatch hz) ⟨Nat.zero_le _, by decide⟩ (by decide) (am_mem 1130 (by decide +kernel) rfl) (am_nw 1142 (by decide +kernel) rfl) (by decide) (Or.inl ⟨dL_plan_13, rfl⟩) dL_plan_15 dL_plan_16 rfl
    exact absurd ((List.getElem?_eq_some_iff.mp hk).1) (by show ¬ k < 1; omega)
  · obtain ⟨rfl, rfl, hp⟩ := hq
    refine w0_i2l (pc := 8) C dL_plan_8 ?_
    refine w0_lastore (pc := 9) C dL_plan_9 bn_335 sh_335 (vp_in_nI (by decide) (by decide)) ?_
    refine w0_goto (pc := 10) (tgt := 17) C dL_plan_10 (by decide) ?_
    refine w0_iconst (pc := 17) (n := 0) C dL_plan_17 ?_
    have eu : am_up h1 335 (nI 0).toNatClampNeg a = am_row h1 335 (upd (h1 335) 0 a) := by rw [nI_clamp (by decide)]; exact am_up_rw _ _ _ _
    rw [eu]
    exact w0_iret (pc := 18) T dL_plan_18 rfl (Nat.le_of_eq (Nat.zero_add _)) (Nat.le_of_eq (Nat.zero_add _)) ⟨rfl, hP _ _ _ hp, fun _ => by rw [am_row_at]; exact rf_upd_eq⟩
abbrev hL_shots : List (Nat × Nat × Nat × Nat) := [(0, 12, 15, 24)]
theorem dL_shots_0 : decode cL_shots 0 = .ok (.aload 4, 2) := by decide +kernel
theorem dL_shots_2 : decode cL_shots 2 = .ok (.iconst 0, 1) := by decide +kernel
theorem dL_shots_3 : decode cL_shots 3 = .ok (.aload_n 0, 1) := by decide +kernel
theorem dL_shots_4 : decode cL_shots 4 = .ok (.iload_n 1, 1) := by decide +kernel
theorem dL_shots_5 : decode cL_shots 5 = .ok (.iload_n 2, 1) := by decide +kernel
theorem dL_shots_6 : decode cL_shots 6 = .ok (.iload_n 3, 1) := by decide +kernel
theorem dL_shots_7 : decode cL_shots 7 = .ok (.invokevirtual 73, 3) := by decide +kernel
theorem dL_shots_10 : decode cL_shots 10 = .ok (.i2l, 1) := by decide +kernel
theorem dL_shots_11 : decode cL_shots 11 = .ok (.lastore, 1) := by decide +kernel
theorem dL_shots_12 : decode cL_shots 12 = .ok (.goto 7, 3) := by decide +kernel
theorem dL_shots_15 : decode cL_shots 15 = .ok (.astore 5, 2) := by decide +kernel
theorem dL_shots_17 : decode cL_shots 17 = .ok (.iconst 1, 1) := by decide +kernel
theorem dL_shots_18 : decode cL_shots 18 = .ok (.ireturn, 1) := by decide +kernel
theorem dL_shots_19 : decode cL_shots 19 = .ok (.iconst 0, 1) := by decide +kernel
theorem dL_shots_20 : decode cL_shots 20 = .ok (.ireturn, 1) := by decide +kernel
/-- shots -/
theorem w_shots {ad : Nat → Nat} {r : am_R} {h : am_H} (x1 : Int32) (x2 : Int32) (x3 : Int32) {d c mc ms : Nat} {a : Int32} {P : am_R → am_H → Prop} (hP : ∀ r' h' g, P r' h' → P r' (am_row h' 335 g)) (hX : am_XM mX11_shots d mc ms [.ref 0, .int x1, .int x2, .int x3] (am_VV ad) r h (ex_ret c a P) (ex_thr ["java/lang/IndexOutOfBoundsException"] c P)) : am_WM mL_shots hL_shots (d + 1) mc ms [.ref 0, .int x1, .int x2, .int x3, .ref 335] (am_VV ad) r h (ex_w c a P) := by
  refine am_WM.of (by decide +kernel) (Nat.le_of_ble_eq_true rfl) (fun X C T => ?_)
  show am_G X (am_VV ad) (0, 0) 0 [(0, .ref 0), (1, .int x1), (2, .int x2), (3, .int x3), (4, .ref 335)] [] r h
  refine w0_aload (pc := 0) C dL_shots_0 rfl ?_
  refine w0_iconst (pc := 2) (n := 0) C dL_shots_2 ?_
  refine w0_aload_n (pc := 3) C dL_shots_3 rfl ?_
  refine w0_iload_n (pc := 4) C dL_shots_4 rfl ?_
  refine w0_iload_n (pc := 5) C dL_shots_5 rfl ?_
  refine w0_iload_n (pc := 6) C dL_shots_6 rfl ?_
  refine w0_callVX (Y := mX11_shots) (pc := 7) (st := [.int (nI 0), .ref 335]) (As := [.int x1, .int x2, .int x3]) C dL_shots_7 (am_mem 1471 (by decide +kernel) rfl) v_X11_shots rfl rfl bn_0 sh_0 ⟨by decide, rfl⟩ (Nat.le_refl _) (Nat.le_of_eq (Nat.zero_add _)) (Nat.le_of_eq (Nat.zero_add _)) (Nat.le_of_ble_eq_true rfl) hX (fun E r1 h1 hq => ?_) (fun v r1 h1 hq => ?_)
  · obtain ⟨k, rfl, hk, hp⟩ := hq
    by_cases e0 : k = 0
    · subst e0
      obtain rfl : "java/lang/IndexOutOfBoundsException" = E := Option.some.inj hk
      exact w0_catch (k := 1) (n := 5) (n2 := 17) C T (Nat.le_of_eq (Nat.zero_add _)) (Nat.le_of_eq (Nat.zero_add _)) ⟨rfl, hp, fun z => absurd z (by omega)⟩ [] [] (0, 12, 15, 24) rfl (fun z hz => nomatch hz) ⟨Nat.zero_le _, by decide⟩ (by decide) (am_mem 1130 (by decide +kernel) rfl) (am_nw 1142 (by decide +kernel) rfl) (by decide) (Or.inl ⟨dL_shots_15, rfl⟩) dL_shots_17 dL_shots_18 rfl
    exact absurd ((List.getElem?_eq_some_iff.mp hk).1) (by show ¬ k < 1; omega)
  · obtain ⟨rfl, rfl, hp⟩ := hq
    refine w0_i2l (pc := 10) C dL_shots_10 ?_
    refine w0_lastore (pc := 11) C dL_shots_11 bn_335 sh_335 (vp_in_nI (by decide) (by decide)) ?_
    refine w0_goto (pc := 12) (tgt := 19) C dL_shots_12 (by decide) ?_
    refine w0_iconst (pc := 19) (n := 0) C dL_shots_19 ?_
    have eu : am_up h1 335 (nI 0).toNatClampNeg a = am_row h1 335 (upd (h1 335) 0 a) := by rw [nI_clamp (by decide)]; exact am_up_rw _ _ _ _
    rw [eu]
    exact w0_iret (pc := 20) T dL_shots_20 rfl (Nat.le_of_eq (Nat.zero_add _)) (Nat.le_of_eq (Nat.zero_add _)) ⟨rfl, hP _ _ _ hp, fun _ => by rw [am_row_at]; exact rf_upd_eq⟩
abbrev hL_outlasts : List (Nat × Nat × Nat × Nat) := [(0, 12, 15, 24)]
theorem dL_outlasts_0 : decode cL_outlasts 0 = .ok (.aload 4, 2) := by decide +kernel
theorem dL_outlasts_2 : decode cL_outlasts 2 = .ok (.iconst 0, 1) := by decide +kernel
theorem dL_outlasts_3 : decode cL_outlasts 3 = .ok (.aload_n 0, 1) := by decide +kernel
theorem dL_outlasts_4 : decode cL_outlasts 4 = .ok (.iload_n 1, 1) := by decide +kernel
theorem dL_outlasts_5 : decode cL_outlasts 5 = .ok (.iload_n 2, 1) := by decide +kernel
theorem dL_outlasts_6 : decode cL_outlasts 6 = .ok (.iload_n 3, 1) := by decide +kernel
theorem dL_outlasts_7 : decode cL_outlasts 7 = .ok (.invokevirtual 76, 3) := by decide +kernel
theorem dL_outlasts_10 : decode cL_outlasts 10 = .ok (.i2l, 1) := by decide +kernel
theorem dL_outlasts_11 : decode cL_outlasts 11 = .ok (.lastore, 1) := by decide +kernel
theorem dL_outlasts_12 : decode cL_outlasts 12 = .ok (.goto 7, 3) := by decide +kernel
theorem dL_outlasts_15 : decode cL_outlasts 15 = .ok (.astore 5, 2) := by decide +kernel
theorem dL_outlasts_17 : decode cL_outlasts 17 = .ok (.iconst 1, 1) := by decide +kernel
theorem dL_outlasts_18 : decode cL_outlasts 18 = .ok (.ireturn, 1) := by decide +kernel
theorem dL_outlasts_19 : decode cL_outlasts 19 = .ok (.iconst 0, 1) := by decide +kernel
theorem dL_outlasts_20 : decode cL_outlasts 20 = .ok (.ireturn, 1) := by decide +kernel
/-- outlasts -/
theorem w_outlasts {ad : Nat → Nat} {r : am_R} {h : am_H} (x1 : Int32) (x2 : Int32) (x3 : Int32) {d c mc ms : Nat} {a : Int32} {P : am_R → am_H → Prop} (hP : ∀ r' h' g, P r' h' → P r' (am_row h' 335 g)) (hX : am_XM mX11_outlasts d mc ms [.ref 0, .int x1, .int x2, .int x3] (am_VV ad) r h (ex_ret c a P) (ex_thr ["java/lang/IndexOutOfBoundsException"] c P)) : am_WM mL_outlasts hL_outlasts (d + 1) mc ms [.ref 0, .int x1, .int x2, .int x3, .ref 335] (am_VV ad) r h (ex_w c a P) := by
  refine am_WM.of (by decide +kernel) (Nat.le_of_ble_eq_true rfl) (fun X C T => ?_)
  show am_G X (am_VV ad) (0, 0) 0 [(0, .ref 0), (1, .int x1), (2, .int x2), (3, .int x3), (4, .ref 335)] [] r h
  refine w0_aload (pc := 0) C dL_outlasts_0 rfl ?_
  refine w0_iconst (pc := 2) (n := 0) C dL_outlasts_2 ?_
  refine w0_aload_n (pc := 3) C dL_outlasts_3 rfl ?_
  refine w0_iload_n (pc := 4) C dL_outlasts_4 rfl ?_
  refine w0_iload_n (pc := 5) C dL_outlasts_5 rfl ?_
  refine w0_iload_n (pc := 6) C dL_outlasts_6 rfl ?_
  refine w0_callVX (Y := mX11_outlasts) (pc := 7) (st := [.int (nI 0), .ref 335]) (As := [.int x1, .int x2, .int x3]) C dL_outlasts_7 (am_mem 1484 (by decide +kernel) rfl) v_X11_outlasts rfl rfl bn_0 sh_0 ⟨by decide, rfl⟩ (Nat.le_refl _) (Nat.le_of_eq (Nat.zero_add _)) (Nat.le_of_eq (Nat.zero_add _)) (Nat.le_of_ble_eq_true rfl) hX (fun E r1 h1 hq => ?_) (fun v r1 h1 hq => ?_)
  · obtain ⟨k, rfl, hk, hp⟩ := hq
    by_cases e0 : k = 0
    · subst e0
      obtain rfl : "java/lang/IndexOutOfBoundsException" = E := Option.some.inj hk
      exact w0_catch (k := 1) (n := 5) (n2 := 17) C T (Nat.le_of_eq (Nat.zero_add _)) (Nat.le_of_eq (Nat.zero_add _)) ⟨rfl, hp, fun z => absurd z (by omega)⟩ [] [] (0, 12, 15, 24) rfl (fun z hz => nomatch hz) ⟨Nat.zero_le _, by decide⟩ (by decide) (am_mem 1130 (by decide +kernel) rfl) (am_nw 1142 (by decide +kernel) rfl) (by decide) (Or.inl ⟨dL_outlasts_15, rfl⟩) dL_outlasts_17 dL_outlasts_18 rfl
    exact absurd ((List.getElem?_eq_some_iff.mp hk).1) (by show ¬ k < 1; omega)
  · obtain ⟨rfl, rfl, hp⟩ := hq
    refine w0_i2l (pc := 10) C dL_outlasts_10 ?_
    refine w0_lastore (pc := 11) C dL_outlasts_11 bn_335 sh_335 (vp_in_nI (by decide) (by decide)) ?_
    refine w0_goto (pc := 12) (tgt := 19) C dL_outlasts_12 (by decide) ?_
    refine w0_iconst (pc := 19) (n := 0) C dL_outlasts_19 ?_
    have eu : am_up h1 335 (nI 0).toNatClampNeg a = am_row h1 335 (upd (h1 335) 0 a) := by rw [nI_clamp (by decide)]; exact am_up_rw _ _ _ _
    rw [eu]
    exact w0_iret (pc := 20) T dL_outlasts_20 rfl (Nat.le_of_eq (Nat.zero_add _)) (Nat.le_of_eq (Nat.zero_add _)) ⟨rfl, hP _ _ _ hp, fun _ => by rw [am_row_at]; exact rf_upd_eq⟩
abbrev hL_reserves : List (Nat × Nat × Nat × Nat) := [(0, 10, 13, 24), (0, 10, 17, 13)]
theorem dL_reserves_0 : decode cL_reserves 0 = .ok (.aload_n 3, 1) := by decide +kernel
theorem dL_reserves_1 : decode cL_reserves 1 = .ok (.iconst 0, 1) := by decide +kernel
theorem dL_reserves_2 : decode cL_reserves 2 = .ok (.aload_n 0, 1) := by decide +kernel
theorem dL_reserves_3 : decode cL_reserves 3 = .ok (.iload_n 1, 1) := by decide +kernel
theorem dL_reserves_4 : decode cL_reserves 4 = .ok (.iload_n 2, 1) := by decide +kernel
theorem dL_reserves_5 : decode cL_reserves 5 = .ok (.invokevirtual 80, 3) := by decide +kernel
theorem dL_reserves_8 : decode cL_reserves 8 = .ok (.i2l, 1) := by decide +kernel
theorem dL_reserves_9 : decode cL_reserves 9 = .ok (.lastore, 1) := by decide +kernel
theorem dL_reserves_10 : decode cL_reserves 10 = .ok (.goto 11, 3) := by decide +kernel
theorem dL_reserves_13 : decode cL_reserves 13 = .ok (.astore 4, 2) := by decide +kernel
theorem dL_reserves_15 : decode cL_reserves 15 = .ok (.iconst 1, 1) := by decide +kernel
theorem dL_reserves_16 : decode cL_reserves 16 = .ok (.ireturn, 1) := by decide +kernel
theorem dL_reserves_17 : decode cL_reserves 17 = .ok (.astore 4, 2) := by decide +kernel
theorem dL_reserves_19 : decode cL_reserves 19 = .ok (.iconst 2, 1) := by decide +kernel
theorem dL_reserves_20 : decode cL_reserves 20 = .ok (.ireturn, 1) := by decide +kernel
theorem dL_reserves_21 : decode cL_reserves 21 = .ok (.iconst 0, 1) := by decide +kernel
theorem dL_reserves_22 : decode cL_reserves 22 = .ok (.ireturn, 1) := by decide +kernel
/-- reserves -/
theorem w_reserves {ad : Nat → Nat} {r : am_R} {h : am_H} (x1 : Int32) (x2 : Int32) {d c mc ms : Nat} {a : Int32} {P : am_R → am_H → Prop} (hP : ∀ r' h' g, P r' h' → P r' (am_row h' 335 g)) (hX : am_XM mX11_reserves d mc ms [.ref 0, .int x1, .int x2] (am_VV ad) r h (ex_ret c a P) (ex_thr ["java/lang/IndexOutOfBoundsException", "java/lang/IllegalArgumentException"] c P)) : am_WM mL_reserves hL_reserves (d + 1) mc ms [.ref 0, .int x1, .int x2, .ref 335] (am_VV ad) r h (ex_w c a P) := by
  refine am_WM.of (by decide +kernel) (Nat.le_of_ble_eq_true rfl) (fun X C T => ?_)
  show am_G X (am_VV ad) (0, 0) 0 [(0, .ref 0), (1, .int x1), (2, .int x2), (3, .ref 335)] [] r h
  refine w0_aload_n (pc := 0) C dL_reserves_0 rfl ?_
  refine w0_iconst (pc := 1) (n := 0) C dL_reserves_1 ?_
  refine w0_aload_n (pc := 2) C dL_reserves_2 rfl ?_
  refine w0_iload_n (pc := 3) C dL_reserves_3 rfl ?_
  refine w0_iload_n (pc := 4) C dL_reserves_4 rfl ?_
  refine w0_callVX (Y := mX11_reserves) (pc := 5) (st := [.int (nI 0), .ref 335]) (As := [.int x1, .int x2]) C dL_reserves_5 (am_mem 1501 (by decide +kernel) rfl) v_X11_reserves rfl rfl bn_0 sh_0 ⟨by decide, rfl⟩ (Nat.le_refl _) (Nat.le_of_eq (Nat.zero_add _)) (Nat.le_of_eq (Nat.zero_add _)) (Nat.le_of_ble_eq_true rfl) hX (fun E r1 h1 hq => ?_) (fun v r1 h1 hq => ?_)
  · obtain ⟨k, rfl, hk, hp⟩ := hq
    by_cases e0 : k = 0
    · subst e0
      obtain rfl : "java/lang/IndexOutOfBoundsException" = E := Option.some.inj hk
      exact w0_catch (k := 1) (n := 4) (n2 := 15) C T (Nat.le_of_eq (Nat.zero_add _)) (Nat.le_of_eq (Nat.zero_add _)) ⟨rfl, hp, fun z => absurd z (by omega)⟩ [] [(0, 10, 17, 13)] (0, 10, 13, 24) rfl (fun z hz => nomatch hz) ⟨Nat.zero_le _, by decide⟩ (by decide) (am_mem 1130 (by decide +kernel) rfl) (am_nw 1142 (by decide +kernel) rfl) (by decide) (Or.inl ⟨dL_reserves_13, rfl⟩) dL_reserves_15 dL_reserves_16 rfl
    by_cases e1 : k = 1
    · subst e1
      obtain rfl : "java/lang/IllegalArgumentException" = E := Option.some.inj hk
      exact w0_catch (k := 2) (n := 4) (n2 := 19) C T (Nat.le_of_eq (Nat.zero_add _)) (Nat.le_of_eq (Nat.zero_add _)) ⟨rfl, hp, fun z => absurd z (by omega)⟩ [(0, 10, 13, 24)] [] (0, 10, 17, 13) rfl (List.forall_mem_cons.mpr ⟨⟨by decide, "java/lang/IndexOutOfBoundsException", am_mem 1130 (by decide +kernel) rfl, List.mem_of_getElem? (i := 8) rfl⟩, (fun z hz => nomatch hz)⟩) ⟨Nat.zero_le _, by decide⟩ (by decide) (am_mem 776 (by decide +kernel) rfl) (am_nw 960 (by decide +kernel) rfl) (by decide) (Or.inl ⟨dL_reserves_17, rfl⟩) dL_reserves_19 dL_reserves_20 rfl
    exact absurd ((List.getElem?_eq_some_iff.mp hk).1) (by show ¬ k < 2; omega)
  · obtain ⟨rfl, rfl, hp⟩ := hq
    refine w0_i2l (pc := 8) C dL_reserves_8 ?_
    refine w0_lastore (pc := 9) C dL_reserves_9 bn_335 sh_335 (vp_in_nI (by decide) (by decide)) ?_
    refine w0_goto (pc := 10) (tgt := 21) C dL_reserves_10 (by decide) ?_
    refine w0_iconst (pc := 21) (n := 0) C dL_reserves_21 ?_
    have eu : am_up h1 335 (nI 0).toNatClampNeg a = am_row h1 335 (upd (h1 335) 0 a) := by rw [nI_clamp (by decide)]; exact am_up_rw _ _ _ _
    rw [eu]
    exact w0_iret (pc := 22) T dL_reserves_22 rfl (Nat.le_of_eq (Nat.zero_add _)) (Nat.le_of_eq (Nat.zero_add _)) ⟨rfl, hP _ _ _ hp, fun _ => by rw [am_row_at]; exact rf_upd_eq⟩
abbrev hL_company : List (Nat × Nat × Nat × Nat) := [(0, 9, 12, 13)]
theorem dL_company_0 : decode cL_company 0 = .ok (.aload_n 2, 1) := by decide +kernel
theorem dL_company_1 : decode cL_company 1 = .ok (.iconst 0, 1) := by decide +kernel
theorem dL_company_2 : decode cL_company 2 = .ok (.aload_n 0, 1) := by decide +kernel
theorem dL_company_3 : decode cL_company 3 = .ok (.iload_n 1, 1) := by decide +kernel
theorem dL_company_4 : decode cL_company 4 = .ok (.invokevirtual 83, 3) := by decide +kernel
theorem dL_company_7 : decode cL_company 7 = .ok (.i2l, 1) := by decide +kernel
theorem dL_company_8 : decode cL_company 8 = .ok (.lastore, 1) := by decide +kernel
theorem dL_company_9 : decode cL_company 9 = .ok (.goto 6, 3) := by decide +kernel
theorem dL_company_12 : decode cL_company 12 = .ok (.astore_n 3, 1) := by decide +kernel
theorem dL_company_13 : decode cL_company 13 = .ok (.iconst 1, 1) := by decide +kernel
theorem dL_company_14 : decode cL_company 14 = .ok (.ireturn, 1) := by decide +kernel
theorem dL_company_15 : decode cL_company 15 = .ok (.iconst 0, 1) := by decide +kernel
theorem dL_company_16 : decode cL_company 16 = .ok (.ireturn, 1) := by decide +kernel
/-- company -/
theorem w_company {ad : Nat → Nat} {r : am_R} {h : am_H} (x1 : Int32) {d c mc ms : Nat} {a : Int32} {P : am_R → am_H → Prop} (hP : ∀ r' h' g, P r' h' → P r' (am_row h' 335 g)) (hX : am_XM mX11_company d mc ms [.ref 0, .int x1] (am_VV ad) r h (ex_ret c a P) (ex_thr ["java/lang/IllegalArgumentException"] c P)) : am_WM mL_company hL_company (d + 1) mc ms [.ref 0, .int x1, .ref 335] (am_VV ad) r h (ex_w c a P) := by
  refine am_WM.of (by decide +kernel) (Nat.le_of_ble_eq_true rfl) (fun X C T => ?_)
  show am_G X (am_VV ad) (0, 0) 0 [(0, .ref 0), (1, .int x1), (2, .ref 335)] [] r h
  refine w0_aload_n (pc := 0) C dL_company_0 rfl ?_
  refine w0_iconst (pc := 1) (n := 0) C dL_company_1 ?_
  refine w0_aload_n (pc := 2) C dL_company_2 rfl ?_
  refine w0_iload_n (pc := 3) C dL_company_3 rfl ?_
  refine w0_callVX (Y := mX11_company) (pc := 4) (st := [.int (nI 0), .ref 335]) (As := [.int x1]) C dL_company_4 (am_mem 1520 (by decide +kernel) rfl) v_X11_company rfl rfl bn_0 sh_0 ⟨by decide, rfl⟩ (Nat.le_refl _) (Nat.le_of_eq (Nat.zero_add _)) (Nat.le_of_eq (Nat.zero_add _)) (Nat.le_of_ble_eq_true rfl) hX (fun E r1 h1 hq => ?_) (fun v r1 h1 hq => ?_)
  · obtain ⟨k, rfl, hk, hp⟩ := hq
    by_cases e0 : k = 0
    · subst e0
      obtain rfl : "java/lang/IllegalArgumentException" = E := Option.some.inj hk
      exact w0_catch (k := 1) (n := 3) (n2 := 13) C T (Nat.le_of_eq (Nat.zero_add _)) (Nat.le_of_eq (Nat.zero_add _)) ⟨rfl, hp, fun z => absurd z (by omega)⟩ [] [] (0, 9, 12, 13) rfl (fun z hz => nomatch hz) ⟨Nat.zero_le _, by decide⟩ (by decide) (am_mem 776 (by decide +kernel) rfl) (am_nw 960 (by decide +kernel) rfl) (by decide) (Or.inr ⟨3, dL_company_12, rfl, rfl⟩) dL_company_13 dL_company_14 rfl
    exact absurd ((List.getElem?_eq_some_iff.mp hk).1) (by show ¬ k < 1; omega)
  · obtain ⟨rfl, rfl, hp⟩ := hq
    refine w0_i2l (pc := 7) C dL_company_7 ?_
    refine w0_lastore (pc := 8) C dL_company_8 bn_335 sh_335 (vp_in_nI (by decide) (by decide)) ?_
    refine w0_goto (pc := 9) (tgt := 15) C dL_company_9 (by decide) ?_
    refine w0_iconst (pc := 15) (n := 0) C dL_company_15 ?_
    have eu : am_up h1 335 (nI 0).toNatClampNeg a = am_row h1 335 (upd (h1 335) 0 a) := by rw [nI_clamp (by decide)]; exact am_up_rw _ _ _ _
    rw [eu]
    exact w0_iret (pc := 16) T dL_company_16 rfl (Nat.le_of_eq (Nat.zero_add _)) (Nat.le_of_eq (Nat.zero_add _)) ⟨rfl, hP _ _ _ hp, fun _ => by rw [am_row_at]; exact rf_upd_eq⟩
abbrev hL_duel : List (Nat × Nat × Nat × Nat) := [(0, 10, 13, 24), (0, 10, 17, 13)]
theorem dL_duel_0 : decode cL_duel 0 = .ok (.aload_n 3, 1) := by decide +kernel
theorem dL_duel_1 : decode cL_duel 1 = .ok (.iconst 0, 1) := by decide +kernel
theorem dL_duel_2 : decode cL_duel 2 = .ok (.aload_n 0, 1) := by decide +kernel
theorem dL_duel_3 : decode cL_duel 3 = .ok (.iload_n 1, 1) := by decide +kernel
theorem dL_duel_4 : decode cL_duel 4 = .ok (.iload_n 2, 1) := by decide +kernel
theorem dL_duel_5 : decode cL_duel 5 = .ok (.invokevirtual 86, 3) := by decide +kernel
theorem dL_duel_8 : decode cL_duel 8 = .ok (.i2l, 1) := by decide +kernel
theorem dL_duel_9 : decode cL_duel 9 = .ok (.lastore, 1) := by decide +kernel
theorem dL_duel_10 : decode cL_duel 10 = .ok (.goto 11, 3) := by decide +kernel
theorem dL_duel_13 : decode cL_duel 13 = .ok (.astore 4, 2) := by decide +kernel
theorem dL_duel_15 : decode cL_duel 15 = .ok (.iconst 1, 1) := by decide +kernel
theorem dL_duel_16 : decode cL_duel 16 = .ok (.ireturn, 1) := by decide +kernel
theorem dL_duel_17 : decode cL_duel 17 = .ok (.astore 4, 2) := by decide +kernel
theorem dL_duel_19 : decode cL_duel 19 = .ok (.iconst 2, 1) := by decide +kernel
theorem dL_duel_20 : decode cL_duel 20 = .ok (.ireturn, 1) := by decide +kernel
theorem dL_duel_21 : decode cL_duel 21 = .ok (.iconst 0, 1) := by decide +kernel
theorem dL_duel_22 : decode cL_duel 22 = .ok (.ireturn, 1) := by decide +kernel
/-- duel -/
theorem w_duel {ad : Nat → Nat} {r : am_R} {h : am_H} (x1 : Int32) (x2 : Int32) {d c mc ms : Nat} {a : Int32} {P : am_R → am_H → Prop} (hP : ∀ r' h' g, P r' h' → P r' (am_row h' 335 g)) (hX : am_XM mX11_duel d mc ms [.ref 0, .int x1, .int x2] (am_VV ad) r h (ex_ret c a P) (ex_thr ["java/lang/IndexOutOfBoundsException", "java/lang/IllegalArgumentException"] c P)) : am_WM mL_duel hL_duel (d + 1) mc ms [.ref 0, .int x1, .int x2, .ref 335] (am_VV ad) r h (ex_w c a P) := by
  refine am_WM.of (by decide +kernel) (Nat.le_of_ble_eq_true rfl) (fun X C T => ?_)
  show am_G X (am_VV ad) (0, 0) 0 [(0, .ref 0), (1, .int x1), (2, .int x2), (3, .ref 335)] [] r h
  refine w0_aload_n (pc := 0) C dL_duel_0 rfl ?_
  refine w0_iconst (pc := 1) (n := 0) C dL_duel_1 ?_
  refine w0_aload_n (pc := 2) C dL_duel_2 rfl ?_
  refine w0_iload_n (pc := 3) C dL_duel_3 rfl ?_
  refine w0_iload_n (pc := 4) C dL_duel_4 rfl ?_
  refine w0_callVX (Y := mX11_duel) (pc := 5) (st := [.int (nI 0), .ref 335]) (As := [.int x1, .int x2]) C dL_duel_5 (am_mem 1536 (by decide +kernel) rfl) v_X11_duel rfl rfl bn_0 sh_0 ⟨by decide, rfl⟩ (Nat.le_refl _) (Nat.le_of_eq (Nat.zero_add _)) (Nat.le_of_eq (Nat.zero_add _)) (Nat.le_of_ble_eq_true rfl) hX (fun E r1 h1 hq => ?_) (fun v r1 h1 hq => ?_)
  · obtain ⟨k, rfl, hk, hp⟩ := hq
    by_cases e0 : k = 0
    · subst e0
      obtain rfl : "java/lang/IndexOutOfBoundsException" = E := Option.some.inj hk
      exact w0_catch (k := 1) (n := 4) (n2 := 15) C T (Nat.le_of_eq (Nat.zero_add _)) (Nat.le_of_eq (Nat.zero_add _)) ⟨rfl, hp, fun z => absurd z (by omega)⟩ [] [(0, 10, 17, 13)] (0, 10, 13, 24) rfl (fun z hz => nomatch hz) ⟨Nat.zero_le _, by decide⟩ (by decide) (am_mem 1130 (by decide +kernel) rfl) (am_nw 1142 (by decide +kernel) rfl) (by decide) (Or.inl ⟨dL_duel_13, rfl⟩) dL_duel_15 dL_duel_16 rfl
    by_cases e1 : k = 1
    · subst e1
      obtain rfl : "java/lang/IllegalArgumentException" = E := Option.some.inj hk
      exact w0_catch (k := 2) (n := 4) (n2 := 19) C T (Nat.le_of_eq (Nat.zero_add _)) (Nat.le_of_eq (Nat.zero_add _)) ⟨rfl, hp, fun z => absurd z (by omega)⟩ [(0, 10, 13, 24)] [] (0, 10, 17, 13) rfl (List.forall_mem_cons.mpr ⟨⟨by decide, "java/lang/IndexOutOfBoundsException", am_mem 1130 (by decide +kernel) rfl, List.mem_of_getElem? (i := 8) rfl⟩, (fun z hz => nomatch hz)⟩) ⟨Nat.zero_le _, by decide⟩ (by decide) (am_mem 776 (by decide +kernel) rfl) (am_nw 960 (by decide +kernel) rfl) (by decide) (Or.inl ⟨dL_duel_17, rfl⟩) dL_duel_19 dL_duel_20 rfl
    exact absurd ((List.getElem?_eq_some_iff.mp hk).1) (by show ¬ k < 2; omega)
  · obtain ⟨rfl, rfl, hp⟩ := hq
    refine w0_i2l (pc := 8) C dL_duel_8 ?_
    refine w0_lastore (pc := 9) C dL_duel_9 bn_335 sh_335 (vp_in_nI (by decide) (by decide)) ?_
    refine w0_goto (pc := 10) (tgt := 21) C dL_duel_10 (by decide) ?_
    refine w0_iconst (pc := 21) (n := 0) C dL_duel_21 ?_
    have eu : am_up h1 335 (nI 0).toNatClampNeg a = am_row h1 335 (upd (h1 335) 0 a) := by rw [nI_clamp (by decide)]; exact am_up_rw _ _ _ _
    rw [eu]
    exact w0_iret (pc := 22) T dL_duel_22 rfl (Nat.le_of_eq (Nat.zero_add _)) (Nat.le_of_eq (Nat.zero_add _)) ⟨rfl, hP _ _ _ hp, fun _ => by rw [am_row_at]; exact rf_upd_eq⟩
abbrev hL_best : List (Nat × Nat × Nat × Nat) := [(0, 10, 13, 24), (0, 10, 17, 13)]
theorem dL_best_0 : decode cL_best 0 = .ok (.aload_n 3, 1) := by decide +kernel
theorem dL_best_1 : decode cL_best 1 = .ok (.iconst 0, 1) := by decide +kernel
theorem dL_best_2 : decode cL_best 2 = .ok (.aload_n 0, 1) := by decide +kernel
theorem dL_best_3 : decode cL_best 3 = .ok (.iload_n 1, 1) := by decide +kernel
theorem dL_best_4 : decode cL_best 4 = .ok (.iload_n 2, 1) := by decide +kernel
theorem dL_best_5 : decode cL_best 5 = .ok (.invokevirtual 89, 3) := by decide +kernel
theorem dL_best_8 : decode cL_best 8 = .ok (.i2l, 1) := by decide +kernel
theorem dL_best_9 : decode cL_best 9 = .ok (.lastore, 1) := by decide +kernel
theorem dL_best_10 : decode cL_best 10 = .ok (.goto 11, 3) := by decide +kernel
theorem dL_best_13 : decode cL_best 13 = .ok (.astore 4, 2) := by decide +kernel
theorem dL_best_15 : decode cL_best 15 = .ok (.iconst 1, 1) := by decide +kernel
theorem dL_best_16 : decode cL_best 16 = .ok (.ireturn, 1) := by decide +kernel
theorem dL_best_17 : decode cL_best 17 = .ok (.astore 4, 2) := by decide +kernel
theorem dL_best_19 : decode cL_best 19 = .ok (.iconst 2, 1) := by decide +kernel
theorem dL_best_20 : decode cL_best 20 = .ok (.ireturn, 1) := by decide +kernel
theorem dL_best_21 : decode cL_best 21 = .ok (.iconst 0, 1) := by decide +kernel
theorem dL_best_22 : decode cL_best 22 = .ok (.ireturn, 1) := by decide +kernel
/-- best -/
theorem w_best {ad : Nat → Nat} {r : am_R} {h : am_H} (x1 : Int32) (x2 : Int32) {d c mc ms : Nat} {a : Int32} {P : am_R → am_H → Prop} (hP : ∀ r' h' g, P r' h' → P r' (am_row h' 335 g)) (hX : am_XM mX11_best d mc ms [.ref 0, .int x1, .int x2] (am_VV ad) r h (ex_ret c a P) (ex_thr ["java/lang/IndexOutOfBoundsException", "java/lang/IllegalArgumentException"] c P)) : am_WM mL_best hL_best (d + 1) mc ms [.ref 0, .int x1, .int x2, .ref 335] (am_VV ad) r h (ex_w c a P) := by
  refine am_WM.of (by decide +kernel) (Nat.le_of_ble_eq_true rfl) (fun X C T => ?_)
  show am_G X (am_VV ad) (0, 0) 0 [(0, .ref 0), (1, .int x1), (2, .int x2), (3, .ref 335)] [] r h
  refine w0_aload_n (pc := 0) C dL_best_0 rfl ?_
  refine w0_iconst (pc := 1) (n := 0) C dL_best_1 ?_
  refine w0_aload_n (pc := 2) C dL_best_2 rfl ?_
  refine w0_iload_n (pc := 3) C dL_best_3 rfl ?_
  refine w0_iload_n (pc := 4) C dL_best_4 rfl ?_
  refine w0_callVX (Y := mX11_best) (pc := 5) (st := [.int (nI 0), .ref 335]) (As := [.int x1, .int x2]) C dL_best_5 (am_mem 1562 (by decide +kernel) rfl) v_X11_best rfl rfl bn_0 sh_0 ⟨by decide, rfl⟩ (Nat.le_refl _) (Nat.le_of_eq (Nat.zero_add _)) (Nat.le_of_eq (Nat.zero_add _)) (Nat.le_of_ble_eq_true rfl) hX (fun E r1 h1 hq => ?_) (fun v r1 h1 hq => ?_)
  · obtain ⟨k, rfl, hk, hp⟩ := hq
    by_cases e0 : k = 0
    · subst e0
      obtain rfl : "java/lang/IndexOutOfBoundsException" = E := Option.some.inj hk
      exact w0_catch (k := 1) (n := 4) (n2 := 15) C T (Nat.le_of_eq (Nat.zero_add _)) (Nat.le_of_eq (Nat.zero_add _)) ⟨rfl, hp, fun z => absurd z (by omega)⟩ [] [(0, 10, 17, 13)] (0, 10, 13, 24) rfl (fun z hz => nomatch hz) ⟨Nat.zero_le _, by decide⟩ (by decide) (am_mem 1130 (by decide +kernel) rfl) (am_nw 1142 (by decide +kernel) rfl) (by decide) (Or.inl ⟨dL_best_13, rfl⟩) dL_best_15 dL_best_16 rfl
    by_cases e1 : k = 1
    · subst e1
      obtain rfl : "java/lang/IllegalArgumentException" = E := Option.some.inj hk
      exact w0_catch (k := 2) (n := 4) (n2 := 19) C T (Nat.le_of_eq (Nat.zero_add _)) (Nat.le_of_eq (Nat.zero_add _)) ⟨rfl, hp, fun z => absurd z (by omega)⟩ [(0, 10, 13, 24)] [] (0, 10, 17, 13) rfl (List.forall_mem_cons.mpr ⟨⟨by decide, "java/lang/IndexOutOfBoundsException", am_mem 1130 (by decide +kernel) rfl, List.mem_of_getElem? (i := 8) rfl⟩, (fun z hz => nomatch hz)⟩) ⟨Nat.zero_le _, by decide⟩ (by decide) (am_mem 776 (by decide +kernel) rfl) (am_nw 960 (by decide +kernel) rfl) (by decide) (Or.inl ⟨dL_best_17, rfl⟩) dL_best_19 dL_best_20 rfl
    exact absurd ((List.getElem?_eq_some_iff.mp hk).1) (by show ¬ k < 2; omega)
  · obtain ⟨rfl, rfl, hp⟩ := hq
    refine w0_i2l (pc := 8) C dL_best_8 ?_
    refine w0_lastore (pc := 9) C dL_best_9 bn_335 sh_335 (vp_in_nI (by decide) (by decide)) ?_
    refine w0_goto (pc := 10) (tgt := 21) C dL_best_10 (by decide) ?_
    refine w0_iconst (pc := 21) (n := 0) C dL_best_21 ?_
    have eu : am_up h1 335 (nI 0).toNatClampNeg a = am_row h1 335 (upd (h1 335) 0 a) := by rw [nI_clamp (by decide)]; exact am_up_rw _ _ _ _
    rw [eu]
    exact w0_iret (pc := 22) T dL_best_22 rfl (Nat.le_of_eq (Nat.zero_add _)) (Nat.le_of_eq (Nat.zero_add _)) ⟨rfl, hP _ _ _ hp, fun _ => by rw [am_row_at]; exact rf_upd_eq⟩
abbrev hL_spread : List (Nat × Nat × Nat × Nat) := [(0, 12, 15, 24), (0, 12, 19, 13)]
theorem dL_spread_0 : decode cL_spread 0 = .ok (.aload 4, 2) := by decide +kernel
theorem dL_spread_2 : decode cL_spread 2 = .ok (.iconst 0, 1) := by decide +kernel
theorem dL_spread_3 : decode cL_spread 3 = .ok (.aload_n 0, 1) := by decide +kernel
theorem dL_spread_4 : decode cL_spread 4 = .ok (.iload_n 1, 1) := by decide +kernel
theorem dL_spread_5 : decode cL_spread 5 = .ok (.iload_n 2, 1) := by decide +kernel
theorem dL_spread_6 : decode cL_spread 6 = .ok (.iload_n 3, 1) := by decide +kernel
theorem dL_spread_7 : decode cL_spread 7 = .ok (.invokevirtual 92, 3) := by decide +kernel
theorem dL_spread_10 : decode cL_spread 10 = .ok (.i2l, 1) := by decide +kernel
theorem dL_spread_11 : decode cL_spread 11 = .ok (.lastore, 1) := by decide +kernel
theorem dL_spread_12 : decode cL_spread 12 = .ok (.goto 11, 3) := by decide +kernel
theorem dL_spread_15 : decode cL_spread 15 = .ok (.astore 5, 2) := by decide +kernel
theorem dL_spread_17 : decode cL_spread 17 = .ok (.iconst 1, 1) := by decide +kernel
theorem dL_spread_18 : decode cL_spread 18 = .ok (.ireturn, 1) := by decide +kernel
theorem dL_spread_19 : decode cL_spread 19 = .ok (.astore 5, 2) := by decide +kernel
theorem dL_spread_21 : decode cL_spread 21 = .ok (.iconst 2, 1) := by decide +kernel
theorem dL_spread_22 : decode cL_spread 22 = .ok (.ireturn, 1) := by decide +kernel
theorem dL_spread_23 : decode cL_spread 23 = .ok (.iconst 0, 1) := by decide +kernel
theorem dL_spread_24 : decode cL_spread 24 = .ok (.ireturn, 1) := by decide +kernel
/-- spread -/
theorem w_spread {ad : Nat → Nat} {r : am_R} {h : am_H} (x1 : Int32) (x2 : Int32) (x3 : Int32) {d c mc ms : Nat} {a : Int32} {P : am_R → am_H → Prop} (hP : ∀ r' h' g, P r' h' → P r' (am_row h' 335 g)) (hX : am_XM mX11_spread d mc ms [.ref 0, .int x1, .int x2, .int x3] (am_VV ad) r h (ex_ret c a P) (ex_thr ["java/lang/IndexOutOfBoundsException", "java/lang/IllegalArgumentException"] c P)) : am_WM mL_spread hL_spread (d + 1) mc ms [.ref 0, .int x1, .int x2, .int x3, .ref 335] (am_VV ad) r h (ex_w c a P) := by
  refine am_WM.of (by decide +kernel) (Nat.le_of_ble_eq_true rfl) (fun X C T => ?_)
  show am_G X (am_VV ad) (0, 0) 0 [(0, .ref 0), (1, .int x1), (2, .int x2), (3, .int x3), (4, .ref 335)] [] r h
  refine w0_aload (pc := 0) C dL_spread_0 rfl ?_
  refine w0_iconst (pc := 2) (n := 0) C dL_spread_2 ?_
  refine w0_aload_n (pc := 3) C dL_spread_3 rfl ?_
  refine w0_iload_n (pc := 4) C dL_spread_4 rfl ?_
  refine w0_iload_n (pc := 5) C dL_spread_5 rfl ?_
  refine w0_iload_n (pc := 6) C dL_spread_6 rfl ?_
  refine w0_callVX (Y := mX11_spread) (pc := 7) (st := [.int (nI 0), .ref 335]) (As := [.int x1, .int x2, .int x3]) C dL_spread_7 (am_mem 1573 (by decide +kernel) rfl) v_X11_spread rfl rfl bn_0 sh_0 ⟨by decide, rfl⟩ (Nat.le_refl _) (Nat.le_of_eq (Nat.zero_add _)) (Nat.le_of_eq (Nat.zero_add _)) (Nat.le_of_ble_eq_true rfl) hX (fun E r1 h1 hq => ?_) (fun v r1 h1 hq => ?_)
  · obtain ⟨k, rfl, hk, hp⟩ := hq
    by_cases e0 : k = 0
    · subst e0
      obtain rfl : "java/lang/IndexOutOfBoundsException" = E := Option.some.inj hk
      exact w0_catch (k := 1) (n := 5) (n2 := 17) C T (Nat.le_of_eq (Nat.zero_add _)) (Nat.le_of_eq (Nat.zero_add _)) ⟨rfl, hp, fun z => absurd z (by omega)⟩ [] [(0, 12, 19, 13)] (0, 12, 15, 24) rfl (fun z hz => nomatch hz) ⟨Nat.zero_le _, by decide⟩ (by decide) (am_mem 1130 (by decide +kernel) rfl) (am_nw 1142 (by decide +kernel) rfl) (by decide) (Or.inl ⟨dL_spread_15, rfl⟩) dL_spread_17 dL_spread_18 rfl
    by_cases e1 : k = 1
    · subst e1
      obtain rfl : "java/lang/IllegalArgumentException" = E := Option.some.inj hk
      exact w0_catch (k := 2) (n := 5) (n2 := 21) C T (Nat.le_of_eq (Nat.zero_add _)) (Nat.le_of_eq (Nat.zero_add _)) ⟨rfl, hp, fun z => absurd z (by omega)⟩ [(0, 12, 15, 24)] [] (0, 12, 19, 13) rfl (List.forall_mem_cons.mpr ⟨⟨by decide, "java/lang/IndexOutOfBoundsException", am_mem 1130 (by decide +kernel) rfl, List.mem_of_getElem? (i := 8) rfl⟩, (fun z hz => nomatch hz)⟩) ⟨Nat.zero_le _, by decide⟩ (by decide) (am_mem 776 (by decide +kernel) rfl) (am_nw 960 (by decide +kernel) rfl) (by decide) (Or.inl ⟨dL_spread_19, rfl⟩) dL_spread_21 dL_spread_22 rfl
    exact absurd ((List.getElem?_eq_some_iff.mp hk).1) (by show ¬ k < 2; omega)
  · obtain ⟨rfl, rfl, hp⟩ := hq
    refine w0_i2l (pc := 10) C dL_spread_10 ?_
    refine w0_lastore (pc := 11) C dL_spread_11 bn_335 sh_335 (vp_in_nI (by decide) (by decide)) ?_
    refine w0_goto (pc := 12) (tgt := 23) C dL_spread_12 (by decide) ?_
    refine w0_iconst (pc := 23) (n := 0) C dL_spread_23 ?_
    have eu : am_up h1 335 (nI 0).toNatClampNeg a = am_row h1 335 (upd (h1 335) 0 a) := by rw [nI_clamp (by decide)]; exact am_up_rw _ _ _ _
    rw [eu]
    exact w0_iret (pc := 24) T dL_spread_24 rfl (Nat.le_of_eq (Nat.zero_add _)) (Nat.le_of_eq (Nat.zero_add _)) ⟨rfl, hP _ _ _ hp, fun _ => by rw [am_row_at]; exact rf_upd_eq⟩
abbrev hL_soonest : List (Nat × Nat × Nat × Nat) := [(0, 10, 13, 24), (0, 10, 17, 13)]
theorem dL_soonest_0 : decode cL_soonest 0 = .ok (.aload_n 3, 1) := by decide +kernel
theorem dL_soonest_1 : decode cL_soonest 1 = .ok (.iconst 0, 1) := by decide +kernel
theorem dL_soonest_2 : decode cL_soonest 2 = .ok (.aload_n 0, 1) := by decide +kernel
theorem dL_soonest_3 : decode cL_soonest 3 = .ok (.iload_n 1, 1) := by decide +kernel
theorem dL_soonest_4 : decode cL_soonest 4 = .ok (.iload_n 2, 1) := by decide +kernel
theorem dL_soonest_5 : decode cL_soonest 5 = .ok (.invokevirtual 95, 3) := by decide +kernel
theorem dL_soonest_8 : decode cL_soonest 8 = .ok (.i2l, 1) := by decide +kernel
theorem dL_soonest_9 : decode cL_soonest 9 = .ok (.lastore, 1) := by decide +kernel
theorem dL_soonest_10 : decode cL_soonest 10 = .ok (.goto 11, 3) := by decide +kernel
theorem dL_soonest_13 : decode cL_soonest 13 = .ok (.astore 4, 2) := by decide +kernel
theorem dL_soonest_15 : decode cL_soonest 15 = .ok (.iconst 1, 1) := by decide +kernel
theorem dL_soonest_16 : decode cL_soonest 16 = .ok (.ireturn, 1) := by decide +kernel
theorem dL_soonest_17 : decode cL_soonest 17 = .ok (.astore 4, 2) := by decide +kernel
theorem dL_soonest_19 : decode cL_soonest 19 = .ok (.iconst 2, 1) := by decide +kernel
theorem dL_soonest_20 : decode cL_soonest 20 = .ok (.ireturn, 1) := by decide +kernel
theorem dL_soonest_21 : decode cL_soonest 21 = .ok (.iconst 0, 1) := by decide +kernel
theorem dL_soonest_22 : decode cL_soonest 22 = .ok (.ireturn, 1) := by decide +kernel
/-- soonest -/
theorem w_soonest {ad : Nat → Nat} {r : am_R} {h : am_H} (x1 : Int32) (x2 : Int32) {d c mc ms : Nat} {a : Int32} {P : am_R → am_H → Prop} (hP : ∀ r' h' g, P r' h' → P r' (am_row h' 335 g)) (hX : am_XM mX11_soonest d mc ms [.ref 0, .int x1, .int x2] (am_VV ad) r h (ex_ret c a P) (ex_thr ["java/lang/IndexOutOfBoundsException", "java/lang/IllegalArgumentException"] c P)) : am_WM mL_soonest hL_soonest (d + 1) mc ms [.ref 0, .int x1, .int x2, .ref 335] (am_VV ad) r h (ex_w c a P) := by
  refine am_WM.of (by decide +kernel) (Nat.le_of_ble_eq_true rfl) (fun X C T => ?_)
  show am_G X (am_VV ad) (0, 0) 0 [(0, .ref 0), (1, .int x1), (2, .int x2), (3, .ref 335)] [] r h
  refine w0_aload_n (pc := 0) C dL_soonest_0 rfl ?_
  refine w0_iconst (pc := 1) (n := 0) C dL_soonest_1 ?_
  refine w0_aload_n (pc := 2) C dL_soonest_2 rfl ?_
  refine w0_iload_n (pc := 3) C dL_soonest_3 rfl ?_
  refine w0_iload_n (pc := 4) C dL_soonest_4 rfl ?_
  refine w0_callVX (Y := mX11_soonest) (pc := 5) (st := [.int (nI 0), .ref 335]) (As := [.int x1, .int x2]) C dL_soonest_5 (am_mem 1602 (by decide +kernel) rfl) v_X11_soonest rfl rfl bn_0 sh_0 ⟨by decide, rfl⟩ (Nat.le_refl _) (Nat.le_of_eq (Nat.zero_add _)) (Nat.le_of_eq (Nat.zero_add _)) (Nat.le_of_ble_eq_true rfl) hX (fun E r1 h1 hq => ?_) (fun v r1 h1 hq => ?_)
  · obtain ⟨k, rfl, hk, hp⟩ := hq
    by_cases e0 : k = 0
    · subst e0
      obtain rfl : "java/lang/IndexOutOfBoundsException" = E := Option.some.inj hk
      exact w0_catch (k := 1) (n := 4) (n2 := 15) C T (Nat.le_of_eq (Nat.zero_add _)) (Nat.le_of_eq (Nat.zero_add _)) ⟨rfl, hp, fun z => absurd z (by omega)⟩ [] [(0, 10, 17, 13)] (0, 10, 13, 24) rfl (fun z hz => nomatch hz) ⟨Nat.zero_le _, by decide⟩ (by decide) (am_mem 1130 (by decide +kernel) rfl) (am_nw 1142 (by decide +kernel) rfl) (by decide) (Or.inl ⟨dL_soonest_13, rfl⟩) dL_soonest_15 dL_soonest_16 rfl
    by_cases e1 : k = 1
    · subst e1
      obtain rfl : "java/lang/IllegalArgumentException" = E := Option.some.inj hk
      exact w0_catch (k := 2) (n := 4) (n2 := 19) C T (Nat.le_of_eq (Nat.zero_add _)) (Nat.le_of_eq (Nat.zero_add _)) ⟨rfl, hp, fun z => absurd z (by omega)⟩ [(0, 10, 13, 24)] [] (0, 10, 17, 13) rfl (List.forall_mem_cons.mpr ⟨⟨by decide, "java/lang/IndexOutOfBoundsException", am_mem 1130 (by decide +kernel) rfl, List.mem_of_getElem? (i := 8) rfl⟩, (fun z hz => nomatch hz)⟩) ⟨Nat.zero_le _, by decide⟩ (by decide) (am_mem 776 (by decide +kernel) rfl) (am_nw 960 (by decide +kernel) rfl) (by decide) (Or.inl ⟨dL_soonest_17, rfl⟩) dL_soonest_19 dL_soonest_20 rfl
    exact absurd ((List.getElem?_eq_some_iff.mp hk).1) (by show ¬ k < 2; omega)
  · obtain ⟨rfl, rfl, hp⟩ := hq
    refine w0_i2l (pc := 8) C dL_soonest_8 ?_
    refine w0_lastore (pc := 9) C dL_soonest_9 bn_335 sh_335 (vp_in_nI (by decide) (by decide)) ?_
    refine w0_goto (pc := 10) (tgt := 21) C dL_soonest_10 (by decide) ?_
    refine w0_iconst (pc := 21) (n := 0) C dL_soonest_21 ?_
    have eu : am_up h1 335 (nI 0).toNatClampNeg a = am_row h1 335 (upd (h1 335) 0 a) := by rw [nI_clamp (by decide)]; exact am_up_rw _ _ _ _
    rw [eu]
    exact w0_iret (pc := 22) T dL_soonest_22 rfl (Nat.le_of_eq (Nat.zero_add _)) (Nat.le_of_eq (Nat.zero_add _)) ⟨rfl, hP _ _ _ hp, fun _ => by rw [am_row_at]; exact rf_upd_eq⟩
abbrev hL_mute : List (Nat × Nat × Nat × Nat) := [(0, 10, 13, 24)]
theorem dL_mute_0 : decode cL_mute 0 = .ok (.aload_n 3, 1) := by decide +kernel
theorem dL_mute_1 : decode cL_mute 1 = .ok (.iconst 0, 1) := by decide +kernel
theorem dL_mute_2 : decode cL_mute 2 = .ok (.aload_n 0, 1) := by decide +kernel
theorem dL_mute_3 : decode cL_mute 3 = .ok (.iload_n 1, 1) := by decide +kernel
theorem dL_mute_4 : decode cL_mute 4 = .ok (.iload_n 2, 1) := by decide +kernel
theorem dL_mute_5 : decode cL_mute 5 = .ok (.invokevirtual 98, 3) := by decide +kernel
theorem dL_mute_8 : decode cL_mute 8 = .ok (.i2l, 1) := by decide +kernel
theorem dL_mute_9 : decode cL_mute 9 = .ok (.lastore, 1) := by decide +kernel
theorem dL_mute_10 : decode cL_mute 10 = .ok (.goto 7, 3) := by decide +kernel
theorem dL_mute_13 : decode cL_mute 13 = .ok (.astore 4, 2) := by decide +kernel
theorem dL_mute_15 : decode cL_mute 15 = .ok (.iconst 1, 1) := by decide +kernel
theorem dL_mute_16 : decode cL_mute 16 = .ok (.ireturn, 1) := by decide +kernel
theorem dL_mute_17 : decode cL_mute 17 = .ok (.iconst 0, 1) := by decide +kernel
theorem dL_mute_18 : decode cL_mute 18 = .ok (.ireturn, 1) := by decide +kernel
/-- mute -/
theorem w_mute {ad : Nat → Nat} {r : am_R} {h : am_H} (x1 : Int32) (x2 : Int32) {d c mc ms : Nat} {a : Int32} {P : am_R → am_H → Prop} (hP : ∀ r' h' g, P r' h' → P r' (am_row h' 335 g)) (hX : am_XM mX11_mute d mc ms [.ref 0, .int x1, .int x2] (am_VV ad) r h (ex_ret c a P) (ex_thr ["java/lang/IndexOutOfBoundsException"] c P)) : am_WM mL_mute hL_mute (d + 1) mc ms [.ref 0, .int x1, .int x2, .ref 335] (am_VV ad) r h (ex_w c a P) := by
  refine am_WM.of (by decide +kernel) (Nat.le_of_ble_eq_true rfl) (fun X C T => ?_)
  show am_G X (am_VV ad) (0, 0) 0 [(0, .ref 0), (1, .int x1), (2, .int x2), (3, .ref 335)] [] r h
  refine w0_aload_n (pc := 0) C dL_mute_0 rfl ?_
  refine w0_iconst (pc := 1) (n := 0) C dL_mute_1 ?_
  refine w0_aload_n (pc := 2) C dL_mute_2 rfl ?_
  refine w0_iload_n (pc := 3) C dL_mute_3 rfl ?_
  refine w0_iload_n (pc := 4) C dL_mute_4 rfl ?_
  refine w0_callVX (Y := mX11_mute) (pc := 5) (st := [.int (nI 0), .ref 335]) (As := [.int x1, .int x2]) C dL_mute_5 (am_mem 1615 (by decide +kernel) rfl) v_X11_mute rfl rfl bn_0 sh_0 ⟨by decide, rfl⟩ (Nat.le_refl _) (Nat.le_of_eq (Nat.zero_add _)) (Nat.le_of_eq (Nat.zero_add _)) (Nat.le_of_ble_eq_true rfl) hX (fun E r1 h1 hq => ?_) (fun v r1 h1 hq => ?_)
  · obtain ⟨k, rfl, hk, hp⟩ := hq
    by_cases e0 : k = 0
    · subst e0
      obtain rfl : "java/lang/IndexOutOfBoundsException" = E := Option.some.inj hk
      exact w0_catch (k := 1) (n := 4) (n2 := 15) C T (Nat.le_of_eq (Nat.zero_add _)) (Nat.le_of_eq (Nat.zero_add _)) ⟨rfl, hp, fun z => absurd z (by omega)⟩ [] [] (0, 10, 13, 24) rfl (fun z hz => nomatch hz) ⟨Nat.zero_le _, by decide⟩ (by decide) (am_mem 1130 (by decide +kernel) rfl) (am_nw 1142 (by decide +kernel) rfl) (by decide) (Or.inl ⟨dL_mute_13, rfl⟩) dL_mute_15 dL_mute_16 rfl
    exact absurd ((List.getElem?_eq_some_iff.mp hk).1) (by show ¬ k < 1; omega)
  · obtain ⟨rfl, rfl, hp⟩ := hq
    refine w0_i2l (pc := 8) C dL_mute_8 ?_
    refine w0_lastore (pc := 9) C dL_mute_9 bn_335 sh_335 (vp_in_nI (by decide) (by decide)) ?_
    refine w0_goto (pc := 10) (tgt := 17) C dL_mute_10 (by decide) ?_
    refine w0_iconst (pc := 17) (n := 0) C dL_mute_17 ?_
    have eu : am_up h1 335 (nI 0).toNatClampNeg a = am_row h1 335 (upd (h1 335) 0 a) := by rw [nI_clamp (by decide)]; exact am_up_rw _ _ _ _
    rw [eu]
    exact w0_iret (pc := 18) T dL_mute_18 rfl (Nat.le_of_eq (Nat.zero_add _)) (Nat.le_of_eq (Nat.zero_add _)) ⟨rfl, hP _ _ _ hp, fun _ => by rw [am_row_at]; exact rf_upd_eq⟩
abbrev hL_amends : List (Nat × Nat × Nat × Nat) := [(0, 9, 12, 24)]
theorem dL_amends_0 : decode cL_amends 0 = .ok (.aload_n 2, 1) := by decide +kernel
theorem dL_amends_1 : decode cL_amends 1 = .ok (.iconst 0, 1) := by decide +kernel
theorem dL_amends_2 : decode cL_amends 2 = .ok (.aload_n 0, 1) := by decide +kernel
theorem dL_amends_3 : decode cL_amends 3 = .ok (.iload_n 1, 1) := by decide +kernel
theorem dL_amends_4 : decode cL_amends 4 = .ok (.invokevirtual 101, 3) := by decide +kernel
theorem dL_amends_7 : decode cL_amends 7 = .ok (.i2l, 1) := by decide +kernel
theorem dL_amends_8 : decode cL_amends 8 = .ok (.lastore, 1) := by decide +kernel
theorem dL_amends_9 : decode cL_amends 9 = .ok (.goto 6, 3) := by decide +kernel
theorem dL_amends_12 : decode cL_amends 12 = .ok (.astore_n 3, 1) := by decide +kernel
theorem dL_amends_13 : decode cL_amends 13 = .ok (.iconst 1, 1) := by decide +kernel
theorem dL_amends_14 : decode cL_amends 14 = .ok (.ireturn, 1) := by decide +kernel
theorem dL_amends_15 : decode cL_amends 15 = .ok (.iconst 0, 1) := by decide +kernel
theorem dL_amends_16 : decode cL_amends 16 = .ok (.ireturn, 1) := by decide +kernel
/-- amends -/
theorem w_amends {ad : Nat → Nat} {r : am_R} {h : am_H} (x1 : Int32) {d c mc ms : Nat} {a : Int32} {P : am_R → am_H → Prop} (hP : ∀ r' h' g, P r' h' → P r' (am_row h' 335 g)) (hX : am_XM mX11_amends d mc ms [.ref 0, .int x1] (am_VV ad) r h (ex_ret c a P) (ex_thr ["java/lang/IndexOutOfBoundsException"] c P)) : am_WM mL_amends hL_amends (d + 1) mc ms [.ref 0, .int x1, .ref 335] (am_VV ad) r h (ex_w c a P) := by
  refine am_WM.of (by decide +kernel) (Nat.le_of_ble_eq_true rfl) (fun X C T => ?_)
  show am_G X (am_VV ad) (0, 0) 0 [(0, .ref 0), (1, .int x1), (2, .ref 335)] [] r h
  refine w0_aload_n (pc := 0) C dL_amends_0 rfl ?_
  refine w0_iconst (pc := 1) (n := 0) C dL_amends_1 ?_
  refine w0_aload_n (pc := 2) C dL_amends_2 rfl ?_
  refine w0_iload_n (pc := 3) C dL_amends_3 rfl ?_
  refine w0_callVX (Y := mX11_amends) (pc := 4) (st := [.int (nI 0), .ref 335]) (As := [.int x1]) C dL_amends_4 (am_mem 1629 (by decide +kernel) rfl) v_X11_amends rfl rfl bn_0 sh_0 ⟨by decide, rfl⟩ (Nat.le_refl _) (Nat.le_of_eq (Nat.zero_add _)) (Nat.le_of_eq (Nat.zero_add _)) (Nat.le_of_ble_eq_true rfl) hX (fun E r1 h1 hq => ?_) (fun v r1 h1 hq => ?_)
  · obtain ⟨k, rfl, hk, hp⟩ := hq
    by_cases e0 : k = 0
    · subst e0
      obtain rfl : "java/lang/IndexOutOfBoundsException" = E := Option.some.inj hk
      exact w0_catch (k := 1) (n := 3) (n2 := 13) C T (Nat.le_of_eq (Nat.zero_add _)) (Nat.le_of_eq (Nat.zero_add _)) ⟨rfl, hp, fun z => absurd z (by omega)⟩ [] [] (0, 9, 12, 24) rfl (fun z hz => nomatch hz) ⟨Nat.zero_le _, by decide⟩ (by decide) (am_mem 1130 (by decide +kernel) rfl) (am_nw 1142 (by decide +kernel) rfl) (by decide) (Or.inr ⟨3, dL_amends_12, rfl, rfl⟩) dL_amends_13 dL_amends_14 rfl
    exact absurd ((List.getElem?_eq_some_iff.mp hk).1) (by show ¬ k < 1; omega)
  · obtain ⟨rfl, rfl, hp⟩ := hq
    refine w0_i2l (pc := 7) C dL_amends_7 ?_
    refine w0_lastore (pc := 8) C dL_amends_8 bn_335 sh_335 (vp_in_nI (by decide) (by decide)) ?_
    refine w0_goto (pc := 9) (tgt := 15) C dL_amends_9 (by decide) ?_
    refine w0_iconst (pc := 15) (n := 0) C dL_amends_15 ?_
    have eu : am_up h1 335 (nI 0).toNatClampNeg a = am_row h1 335 (upd (h1 335) 0 a) := by rw [nI_clamp (by decide)]; exact am_up_rw _ _ _ _
    rw [eu]
    exact w0_iret (pc := 16) T dL_amends_16 rfl (Nat.le_of_eq (Nat.zero_add _)) (Nat.le_of_eq (Nat.zero_add _)) ⟨rfl, hP _ _ _ hp, fun _ => by rw [am_row_at]; exact rf_upd_eq⟩
abbrev hL_matches : List (Nat × Nat × Nat × Nat) := [(0, 10, 13, 24), (0, 10, 17, 13)]
theorem dL_matches_0 : decode cL_matches 0 = .ok (.aload_n 3, 1) := by decide +kernel
theorem dL_matches_1 : decode cL_matches 1 = .ok (.iconst 0, 1) := by decide +kernel
theorem dL_matches_2 : decode cL_matches 2 = .ok (.aload_n 0, 1) := by decide +kernel
theorem dL_matches_3 : decode cL_matches 3 = .ok (.iload_n 1, 1) := by decide +kernel
theorem dL_matches_4 : decode cL_matches 4 = .ok (.iload_n 2, 1) := by decide +kernel
theorem dL_matches_5 : decode cL_matches 5 = .ok (.invokevirtual 104, 3) := by decide +kernel
theorem dL_matches_8 : decode cL_matches 8 = .ok (.i2l, 1) := by decide +kernel
theorem dL_matches_9 : decode cL_matches 9 = .ok (.lastore, 1) := by decide +kernel
theorem dL_matches_10 : decode cL_matches 10 = .ok (.goto 11, 3) := by decide +kernel
theorem dL_matches_13 : decode cL_matches 13 = .ok (.astore 4, 2) := by decide +kernel
theorem dL_matches_15 : decode cL_matches 15 = .ok (.iconst 1, 1) := by decide +kernel
theorem dL_matches_16 : decode cL_matches 16 = .ok (.ireturn, 1) := by decide +kernel
theorem dL_matches_17 : decode cL_matches 17 = .ok (.astore 4, 2) := by decide +kernel
theorem dL_matches_19 : decode cL_matches 19 = .ok (.iconst 2, 1) := by decide +kernel
theorem dL_matches_20 : decode cL_matches 20 = .ok (.ireturn, 1) := by decide +kernel
theorem dL_matches_21 : decode cL_matches 21 = .ok (.iconst 0, 1) := by decide +kernel
theorem dL_matches_22 : decode cL_matches 22 = .ok (.ireturn, 1) := by decide +kernel
/-- matches -/
theorem w_matches {ad : Nat → Nat} {r : am_R} {h : am_H} (x1 : Int32) (x2 : Int32) {d c mc ms : Nat} {a : Int32} {P : am_R → am_H → Prop} (hP : ∀ r' h' g, P r' h' → P r' (am_row h' 335 g)) (hX : am_XM mX11_matches d mc ms [.ref 0, .int x1, .int x2] (am_VV ad) r h (ex_ret c a P) (ex_thr ["java/lang/IndexOutOfBoundsException", "java/lang/IllegalArgumentException"] c P)) : am_WM mL_matches hL_matches (d + 1) mc ms [.ref 0, .int x1, .int x2, .ref 335] (am_VV ad) r h (ex_w c a P) := by
  refine am_WM.of (by decide +kernel) (Nat.le_of_ble_eq_true rfl) (fun X C T => ?_)
  show am_G X (am_VV ad) (0, 0) 0 [(0, .ref 0), (1, .int x1), (2, .int x2), (3, .ref 335)] [] r h
  refine w0_aload_n (pc := 0) C dL_matches_0 rfl ?_
  refine w0_iconst (pc := 1) (n := 0) C dL_matches_1 ?_
  refine w0_aload_n (pc := 2) C dL_matches_2 rfl ?_
  refine w0_iload_n (pc := 3) C dL_matches_3 rfl ?_
  refine w0_iload_n (pc := 4) C dL_matches_4 rfl ?_
  refine w0_callVX (Y := mX11_matches) (pc := 5) (st := [.int (nI 0), .ref 335]) (As := [.int x1, .int x2]) C dL_matches_5 (am_mem 1648 (by decide +kernel) rfl) v_X11_matches rfl rfl bn_0 sh_0 ⟨by decide, rfl⟩ (Nat.le_refl _) (Nat.le_of_eq (Nat.zero_add _)) (Nat.le_of_eq (Nat.zero_add _)) (Nat.le_of_ble_eq_true rfl) hX (fun E r1 h1 hq => ?_) (fun v r1 h1 hq => ?_)
  · obtain ⟨k, rfl, hk, hp⟩ := hq
    by_cases e0 : k = 0
    · subst e0
      obtain rfl : "java/lang/IndexOutOfBoundsException" = E := Option.some.inj hk
      exact w0_catch (k := 1) (n := 4) (n2 := 15) C T (Nat.le_of_eq (Nat.zero_add _)) (Nat.le_of_eq (Nat.zero_add _)) ⟨rfl, hp, fun z => absurd z (by omega)⟩ [] [(0, 10, 17, 13)] (0, 10, 13, 24) rfl (fun z hz => nomatch hz) ⟨Nat.zero_le _, by decide⟩ (by decide) (am_mem 1130 (by decide +kernel) rfl) (am_nw 1142 (by decide +kernel) rfl) (by decide) (Or.inl ⟨dL_matches_13, rfl⟩) dL_matches_15 dL_matches_16 rfl
    by_cases e1 : k = 1
    · subst e1
      obtain rfl : "java/lang/IllegalArgumentException" = E := Option.some.inj hk
      exact w0_catch (k := 2) (n := 4) (n2 := 19) C T (Nat.le_of_eq (Nat.zero_add _)) (Nat.le_of_eq (Nat.zero_add _)) ⟨rfl, hp, fun z => absurd z (by omega)⟩ [(0, 10, 13, 24)] [] (0, 10, 17, 13) rfl (List.forall_mem_cons.mpr ⟨⟨by decide, "java/lang/IndexOutOfBoundsException", am_mem 1130 (by decide +kernel) rfl, List.mem_of_getElem? (i := 8) rfl⟩, (fun z hz => nomatch hz)⟩) ⟨Nat.zero_le _, by decide⟩ (by decide) (am_mem 776 (by decide +kernel) rfl) (am_nw 960 (by decide +kernel) rfl) (by decide) (Or.inl ⟨dL_matches_17, rfl⟩) dL_matches_19 dL_matches_20 rfl
    exact absurd ((List.getElem?_eq_some_iff.mp hk).1) (by show ¬ k < 2; omega)
  · obtain ⟨rfl, rfl, hp⟩ := hq
    refine w0_i2l (pc := 8) C dL_matches_8 ?_
    refine w0_lastore (pc := 9) C dL_matches_9 bn_335 sh_335 (vp_in_nI (by decide) (by decide)) ?_
    refine w0_goto (pc := 10) (tgt := 21) C dL_matches_10 (by decide) ?_
    refine w0_iconst (pc := 21) (n := 0) C dL_matches_21 ?_
    have eu : am_up h1 335 (nI 0).toNatClampNeg a = am_row h1 335 (upd (h1 335) 0 a) := by rw [nI_clamp (by decide)]; exact am_up_rw _ _ _ _
    rw [eu]
    exact w0_iret (pc := 22) T dL_matches_22 rfl (Nat.le_of_eq (Nat.zero_add _)) (Nat.le_of_eq (Nat.zero_add _)) ⟨rfl, hP _ _ _ hp, fun _ => by rw [am_row_at]; exact rf_upd_eq⟩
abbrev hL_trial : List (Nat × Nat × Nat × Nat) := [(0, 10, 13, 13), (0, 10, 17, 26)]
theorem dL_trial_0 : decode cL_trial 0 = .ok (.aload_n 3, 1) := by decide +kernel
theorem dL_trial_1 : decode cL_trial 1 = .ok (.iconst 0, 1) := by decide +kernel
theorem dL_trial_2 : decode cL_trial 2 = .ok (.aload_n 0, 1) := by decide +kernel
theorem dL_trial_3 : decode cL_trial 3 = .ok (.iload_n 1, 1) := by decide +kernel
theorem dL_trial_4 : decode cL_trial 4 = .ok (.iload_n 2, 1) := by decide +kernel
theorem dL_trial_5 : decode cL_trial 5 = .ok (.invokevirtual 107, 3) := by decide +kernel
theorem dL_trial_8 : decode cL_trial 8 = .ok (.i2l, 1) := by decide +kernel
theorem dL_trial_9 : decode cL_trial 9 = .ok (.lastore, 1) := by decide +kernel
theorem dL_trial_10 : decode cL_trial 10 = .ok (.goto 11, 3) := by decide +kernel
theorem dL_trial_13 : decode cL_trial 13 = .ok (.astore 4, 2) := by decide +kernel
theorem dL_trial_15 : decode cL_trial 15 = .ok (.iconst 1, 1) := by decide +kernel
theorem dL_trial_16 : decode cL_trial 16 = .ok (.ireturn, 1) := by decide +kernel
theorem dL_trial_17 : decode cL_trial 17 = .ok (.astore 4, 2) := by decide +kernel
theorem dL_trial_19 : decode cL_trial 19 = .ok (.iconst 2, 1) := by decide +kernel
theorem dL_trial_20 : decode cL_trial 20 = .ok (.ireturn, 1) := by decide +kernel
theorem dL_trial_21 : decode cL_trial 21 = .ok (.iconst 0, 1) := by decide +kernel
theorem dL_trial_22 : decode cL_trial 22 = .ok (.ireturn, 1) := by decide +kernel
/-- trial -/
theorem w_trial {ad : Nat → Nat} {r : am_R} {h : am_H} (x1 : Int32) (x2 : Int32) {d c mc ms : Nat} {a : Int32} {P : am_R → am_H → Prop} (hP : ∀ r' h' g, P r' h' → P r' (am_row h' 335 g)) (hX : am_XM mX11_trial d mc ms [.ref 0, .int x1, .int x2] (am_VV ad) r h (ex_ret c a P) (ex_thr ["java/lang/IllegalArgumentException", "java/util/NoSuchElementException"] c P)) : am_WM mL_trial hL_trial (d + 1) mc ms [.ref 0, .int x1, .int x2, .ref 335] (am_VV ad) r h (ex_w c a P) := by
  refine am_WM.of (by decide +kernel) (Nat.le_of_ble_eq_true rfl) (fun X C T => ?_)
  show am_G X (am_VV ad) (0, 0) 0 [(0, .ref 0), (1, .int x1), (2, .int x2), (3, .ref 335)] [] r h
  refine w0_aload_n (pc := 0) C dL_trial_0 rfl ?_
  refine w0_iconst (pc := 1) (n := 0) C dL_trial_1 ?_
  refine w0_aload_n (pc := 2) C dL_trial_2 rfl ?_
  refine w0_iload_n (pc := 3) C dL_trial_3 rfl ?_
  refine w0_iload_n (pc := 4) C dL_trial_4 rfl ?_
  refine w0_callVX (Y := mX11_trial) (pc := 5) (st := [.int (nI 0), .ref 335]) (As := [.int x1, .int x2]) C dL_trial_5 (am_mem 1696 (by decide +kernel) rfl) v_X11_trial rfl rfl bn_0 sh_0 ⟨by decide, rfl⟩ (Nat.le_refl _) (Nat.le_of_eq (Nat.zero_add _)) (Nat.le_of_eq (Nat.zero_add _)) (Nat.le_of_ble_eq_true rfl) hX (fun E r1 h1 hq => ?_) (fun v r1 h1 hq => ?_)
  · obtain ⟨k, rfl, hk, hp⟩ := hq
    by_cases e0 : k = 0
    · subst e0
      obtain rfl : "java/lang/IllegalArgumentException" = E := Option.some.inj hk
      exact w0_catch (k := 1) (n := 4) (n2 := 15) C T (Nat.le_of_eq (Nat.zero_add _)) (Nat.le_of_eq (Nat.zero_add _)) ⟨rfl, hp, fun z => absurd z (by omega)⟩ [] [(0, 10, 17, 26)] (0, 10, 13, 13) rfl (fun z hz => nomatch hz) ⟨Nat.zero_le _, by decide⟩ (by decide) (am_mem 776 (by decide +kernel) rfl) (am_nw 960 (by decide +kernel) rfl) (by decide) (Or.inl ⟨dL_trial_13, rfl⟩) dL_trial_15 dL_trial_16 rfl
    by_cases e1 : k = 1
    · subst e1
      obtain rfl : "java/util/NoSuchElementException" = E := Option.some.inj hk
      exact w0_catch (k := 2) (n := 4) (n2 := 19) C T (Nat.le_of_eq (Nat.zero_add _)) (Nat.le_of_eq (Nat.zero_add _)) ⟨rfl, hp, fun z => absurd z (by omega)⟩ [(0, 10, 13, 13)] [] (0, 10, 17, 26) rfl (List.forall_mem_cons.mpr ⟨⟨by decide, "java/lang/IllegalArgumentException", am_mem 776 (by decide +kernel) rfl, List.mem_of_getElem? (i := 2) rfl⟩, (fun z hz => nomatch hz)⟩) ⟨Nat.zero_le _, by decide⟩ (by decide) (am_mem 1131 (by decide +kernel) rfl) (am_nw 1168 (by decide +kernel) rfl) (by decide) (Or.inl ⟨dL_trial_17, rfl⟩) dL_trial_19 dL_trial_20 rfl
    exact absurd ((List.getElem?_eq_some_iff.mp hk).1) (by show ¬ k < 2; omega)
  · obtain ⟨rfl, rfl, hp⟩ := hq
    refine w0_i2l (pc := 8) C dL_trial_8 ?_
    refine w0_lastore (pc := 9) C dL_trial_9 bn_335 sh_335 (vp_in_nI (by decide) (by decide)) ?_
    refine w0_goto (pc := 10) (tgt := 21) C dL_trial_10 (by decide) ?_
    refine w0_iconst (pc := 21) (n := 0) C dL_trial_21 ?_
    have eu : am_up h1 335 (nI 0).toNatClampNeg a = am_row h1 335 (upd (h1 335) 0 a) := by rw [nI_clamp (by decide)]; exact am_up_rw _ _ _ _
    rw [eu]
    exact w0_iret (pc := 22) T dL_trial_22 rfl (Nat.le_of_eq (Nat.zero_add _)) (Nat.le_of_eq (Nat.zero_add _)) ⟨rfl, hP _ _ _ hp, fun _ => by rw [am_row_at]; exact rf_upd_eq⟩
abbrev hL_span : List (Nat × Nat × Nat × Nat) := [(0, 12, 15, 24), (0, 12, 19, 13)]
theorem dL_span_0 : decode cL_span 0 = .ok (.aload 4, 2) := by decide +kernel
theorem dL_span_2 : decode cL_span 2 = .ok (.iconst 0, 1) := by decide +kernel
theorem dL_span_3 : decode cL_span 3 = .ok (.aload_n 0, 1) := by decide +kernel
theorem dL_span_4 : decode cL_span 4 = .ok (.iload_n 1, 1) := by decide +kernel
theorem dL_span_5 : decode cL_span 5 = .ok (.iload_n 2, 1) := by decide +kernel
theorem dL_span_6 : decode cL_span 6 = .ok (.iload_n 3, 1) := by decide +kernel
theorem dL_span_7 : decode cL_span 7 = .ok (.invokevirtual 110, 3) := by decide +kernel
theorem dL_span_10 : decode cL_span 10 = .ok (.i2l, 1) := by decide +kernel
theorem dL_span_11 : decode cL_span 11 = .ok (.lastore, 1) := by decide +kernel
theorem dL_span_12 : decode cL_span 12 = .ok (.goto 11, 3) := by decide +kernel
theorem dL_span_15 : decode cL_span 15 = .ok (.astore 5, 2) := by decide +kernel
theorem dL_span_17 : decode cL_span 17 = .ok (.iconst 1, 1) := by decide +kernel
theorem dL_span_18 : decode cL_span 18 = .ok (.ireturn, 1) := by decide +kernel
theorem dL_span_19 : decode cL_span 19 = .ok (.astore 5, 2) := by decide +kernel
theorem dL_span_21 : decode cL_span 21 = .ok (.iconst 2, 1) := by decide +kernel
theorem dL_span_22 : decode cL_span 22 = .ok (.ireturn, 1) := by decide +kernel
theorem dL_span_23 : decode cL_span 23 = .ok (.iconst 0, 1) := by decide +kernel
theorem dL_span_24 : decode cL_span 24 = .ok (.ireturn, 1) := by decide +kernel
/-- span -/
theorem w_span {ad : Nat → Nat} {r : am_R} {h : am_H} (x1 : Int32) (x2 : Int32) (x3 : Int32) {d c mc ms : Nat} {a : Int32} {P : am_R → am_H → Prop} (hP : ∀ r' h' g, P r' h' → P r' (am_row h' 335 g)) (hX : am_XM mX11_span d mc ms [.ref 0, .int x1, .int x2, .int x3] (am_VV ad) r h (ex_ret c a P) (ex_thr ["java/lang/IndexOutOfBoundsException", "java/lang/IllegalArgumentException"] c P)) : am_WM mL_span hL_span (d + 1) mc ms [.ref 0, .int x1, .int x2, .int x3, .ref 335] (am_VV ad) r h (ex_w c a P) := by
  refine am_WM.of (by decide +kernel) (Nat.le_of_ble_eq_true rfl) (fun X C T => ?_)
  show am_G X (am_VV ad) (0, 0) 0 [(0, .ref 0), (1, .int x1), (2, .int x2), (3, .int x3), (4, .ref 335)] [] r h
  refine w0_aload (pc := 0) C dL_span_0 rfl ?_
  refine w0_iconst (pc := 2) (n := 0) C dL_span_2 ?_
  refine w0_aload_n (pc := 3) C dL_span_3 rfl ?_
  refine w0_iload_n (pc := 4) C dL_span_4 rfl ?_
  refine w0_iload_n (pc := 5) C dL_span_5 rfl ?_
  refine w0_iload_n (pc := 6) C dL_span_6 rfl ?_
  refine w0_callVX (Y := mX11_span) (pc := 7) (st := [.int (nI 0), .ref 335]) (As := [.int x1, .int x2, .int x3]) C dL_span_7 (am_mem 1705 (by decide +kernel) rfl) v_X11_span rfl rfl bn_0 sh_0 ⟨by decide, rfl⟩ (Nat.le_refl _) (Nat.le_of_eq (Nat.zero_add _)) (Nat.le_of_eq (Nat.zero_add _)) (Nat.le_of_ble_eq_true rfl) hX (fun E r1 h1 hq => ?_) (fun v r1 h1 hq => ?_)
  · obtain ⟨k, rfl, hk, hp⟩ := hq
    by_cases e0 : k = 0
    · subst e0
      obtain rfl : "java/lang/IndexOutOfBoundsException" = E := Option.some.inj hk
      exact w0_catch (k := 1) (n := 5) (n2 := 17) C T (Nat.le_of_eq (Nat.zero_add _)) (Nat.le_of_eq (Nat.zero_add _)) ⟨rfl, hp, fun z => absurd z (by omega)⟩ [] [(0, 12, 19, 13)] (0, 12, 15, 24) rfl (fun z hz => nomatch hz) ⟨Nat.zero_le _, by decide⟩ (by decide) (am_mem 1130 (by decide +kernel) rfl) (am_nw 1142 (by decide +kernel) rfl) (by decide) (Or.inl ⟨dL_span_15, rfl⟩) dL_span_17 dL_span_18 rfl
    by_cases e1 : k = 1
    · subst e1
      obtain rfl : "java/lang/IllegalArgumentException" = E := Option.some.inj hk
      exact w0_catch (k := 2) (n := 5) (n2 := 21) C T (Nat.le_of_eq (Nat.zero_add _)) (Nat.le_of_eq (Nat.zero_add _)) ⟨rfl, hp, fun z => absurd z (by omega)⟩ [(0, 12, 15, 24)] [] (0, 12, 19, 13) rfl (List.forall_mem_cons.mpr ⟨⟨by decide, "java/lang/IndexOutOfBoundsException", am_mem 1130 (by decide +kernel) rfl, List.mem_of_getElem? (i := 8) rfl⟩, (fun z hz => nomatch hz)⟩) ⟨Nat.zero_le _, by decide⟩ (by decide) (am_mem 776 (by decide +kernel) rfl) (am_nw 960 (by decide +kernel) rfl) (by decide) (Or.inl ⟨dL_span_19, rfl⟩) dL_span_21 dL_span_22 rfl
    exact absurd ((List.getElem?_eq_some_iff.mp hk).1) (by show ¬ k < 2; omega)
  · obtain ⟨rfl, rfl, hp⟩ := hq
    refine w0_i2l (pc := 10) C dL_span_10 ?_
    refine w0_lastore (pc := 11) C dL_span_11 bn_335 sh_335 (vp_in_nI (by decide) (by decide)) ?_
    refine w0_goto (pc := 12) (tgt := 23) C dL_span_12 (by decide) ?_
    refine w0_iconst (pc := 23) (n := 0) C dL_span_23 ?_
    have eu : am_up h1 335 (nI 0).toNatClampNeg a = am_row h1 335 (upd (h1 335) 0 a) := by rw [nI_clamp (by decide)]; exact am_up_rw _ _ _ _
    rw [eu]
    exact w0_iret (pc := 24) T dL_span_24 rfl (Nat.le_of_eq (Nat.zero_add _)) (Nat.le_of_eq (Nat.zero_add _)) ⟨rfl, hP _ _ _ hp, fun _ => by rw [am_row_at]; exact rf_upd_eq⟩
abbrev hL_meets : List (Nat × Nat × Nat × Nat) := [(0, 10, 13, 24), (0, 10, 17, 13)]
theorem dL_meets_0 : decode cL_meets 0 = .ok (.aload_n 3, 1) := by decide +kernel
theorem dL_meets_1 : decode cL_meets 1 = .ok (.iconst 0, 1) := by decide +kernel
theorem dL_meets_2 : decode cL_meets 2 = .ok (.aload_n 0, 1) := by decide +kernel
theorem dL_meets_3 : decode cL_meets 3 = .ok (.iload_n 1, 1) := by decide +kernel
theorem dL_meets_4 : decode cL_meets 4 = .ok (.iload_n 2, 1) := by decide +kernel
theorem dL_meets_5 : decode cL_meets 5 = .ok (.invokevirtual 113, 3) := by decide +kernel
theorem dL_meets_8 : decode cL_meets 8 = .ok (.i2l, 1) := by decide +kernel
theorem dL_meets_9 : decode cL_meets 9 = .ok (.lastore, 1) := by decide +kernel
theorem dL_meets_10 : decode cL_meets 10 = .ok (.goto 11, 3) := by decide +kernel
theorem dL_meets_13 : decode cL_meets 13 = .ok (.astore 4, 2) := by decide +kernel
theorem dL_meets_15 : decode cL_meets 15 = .ok (.iconst 1, 1) := by decide +kernel
theorem dL_meets_16 : decode cL_meets 16 = .ok (.ireturn, 1) := by decide +kernel
theorem dL_meets_17 : decode cL_meets 17 = .ok (.astore 4, 2) := by decide +kernel
theorem dL_meets_19 : decode cL_meets 19 = .ok (.iconst 2, 1) := by decide +kernel
theorem dL_meets_20 : decode cL_meets 20 = .ok (.ireturn, 1) := by decide +kernel
theorem dL_meets_21 : decode cL_meets 21 = .ok (.iconst 0, 1) := by decide +kernel
theorem dL_meets_22 : decode cL_meets 22 = .ok (.ireturn, 1) := by decide +kernel
/-- meets -/
theorem w_meets {ad : Nat → Nat} {r : am_R} {h : am_H} (x1 : Int32) (x2 : Int32) {d c mc ms : Nat} {a : Int32} {P : am_R → am_H → Prop} (hP : ∀ r' h' g, P r' h' → P r' (am_row h' 335 g)) (hX : am_XM mX11_meets d mc ms [.ref 0, .int x1, .int x2] (am_VV ad) r h (ex_ret c a P) (ex_thr ["java/lang/IndexOutOfBoundsException", "java/lang/IllegalArgumentException"] c P)) : am_WM mL_meets hL_meets (d + 1) mc ms [.ref 0, .int x1, .int x2, .ref 335] (am_VV ad) r h (ex_w c a P) := by
  refine am_WM.of (by decide +kernel) (Nat.le_of_ble_eq_true rfl) (fun X C T => ?_)
  show am_G X (am_VV ad) (0, 0) 0 [(0, .ref 0), (1, .int x1), (2, .int x2), (3, .ref 335)] [] r h
  refine w0_aload_n (pc := 0) C dL_meets_0 rfl ?_
  refine w0_iconst (pc := 1) (n := 0) C dL_meets_1 ?_
  refine w0_aload_n (pc := 2) C dL_meets_2 rfl ?_
  refine w0_iload_n (pc := 3) C dL_meets_3 rfl ?_
  refine w0_iload_n (pc := 4) C dL_meets_4 rfl ?_
  refine w0_callVX (Y := mX11_meets) (pc := 5) (st := [.int (nI 0), .ref 335]) (As := [.int x1, .int x2]) C dL_meets_5 (am_mem 1713 (by decide +kernel) rfl) v_X11_meets rfl rfl bn_0 sh_0 ⟨by decide, rfl⟩ (Nat.le_refl _) (Nat.le_of_eq (Nat.zero_add _)) (Nat.le_of_eq (Nat.zero_add _)) (Nat.le_of_ble_eq_true rfl) hX (fun E r1 h1 hq => ?_) (fun v r1 h1 hq => ?_)
  · obtain ⟨k, rfl, hk, hp⟩ := hq
    by_cases e0 : k = 0
    · subst e0
      obtain rfl : "java/lang/IndexOutOfBoundsException" = E := Option.some.inj hk
      exact w0_catch (k := 1) (n := 4) (n2 := 15) C T (Nat.le_of_eq (Nat.zero_add _)) (Nat.le_of_eq (Nat.zero_add _)) ⟨rfl, hp, fun z => absurd z (by omega)⟩ [] [(0, 10, 17, 13)] (0, 10, 13, 24) rfl (fun z hz => nomatch hz) ⟨Nat.zero_le _, by decide⟩ (by decide) (am_mem 1130 (by decide +kernel) rfl) (am_nw 1142 (by decide +kernel) rfl) (by decide) (Or.inl ⟨dL_meets_13, rfl⟩) dL_meets_15 dL_meets_16 rfl
    by_cases e1 : k = 1
    · subst e1
      obtain rfl : "java/lang/IllegalArgumentException" = E := Option.some.inj hk
      exact w0_catch (k := 2) (n := 4) (n2 := 19) C T (Nat.le_of_eq (Nat.zero_add _)) (Nat.le_of_eq (Nat.zero_add _)) ⟨rfl, hp, fun z => absurd z (by omega)⟩ [(0, 10, 13, 24)] [] (0, 10, 17, 13) rfl (List.forall_mem_cons.mpr ⟨⟨by decide, "java/lang/IndexOutOfBoundsException", am_mem 1130 (by decide +kernel) rfl, List.mem_of_getElem? (i := 8) rfl⟩, (fun z hz => nomatch hz)⟩) ⟨Nat.zero_le _, by decide⟩ (by decide) (am_mem 776 (by decide +kernel) rfl) (am_nw 960 (by decide +kernel) rfl) (by decide) (Or.inl ⟨dL_meets_17, rfl⟩) dL_meets_19 dL_meets_20 rfl
    exact absurd ((List.getElem?_eq_some_iff.mp hk).1) (by show ¬ k < 2; omega)
  · obtain ⟨rfl, rfl, hp⟩ := hq
    refine w0_i2l (pc := 8) C dL_meets_8 ?_
    refine w0_lastore (pc := 9) C dL_meets_9 bn_335 sh_335 (vp_in_nI (by decide) (by decide)) ?_
    refine w0_goto (pc := 10) (tgt := 21) C dL_meets_10 (by decide) ?_
    refine w0_iconst (pc := 21) (n := 0) C dL_meets_21 ?_
    have eu : am_up h1 335 (nI 0).toNatClampNeg a = am_row h1 335 (upd (h1 335) 0 a) := by rw [nI_clamp (by decide)]; exact am_up_rw _ _ _ _
    rw [eu]
    exact w0_iret (pc := 22) T dL_meets_22 rfl (Nat.le_of_eq (Nat.zero_add _)) (Nat.le_of_eq (Nat.zero_add _)) ⟨rfl, hP _ _ _ hp, fun _ => by rw [am_row_at]; exact rf_upd_eq⟩
abbrev hL_log : List (Nat × Nat × Nat × Nat) := [(0, 10, 13, 26)]
theorem dL_log_0 : decode cL_log 0 = .ok (.aload_n 3, 1) := by decide +kernel
theorem dL_log_1 : decode cL_log 1 = .ok (.iconst 0, 1) := by decide +kernel
theorem dL_log_2 : decode cL_log 2 = .ok (.aload_n 0, 1) := by decide +kernel
theorem dL_log_3 : decode cL_log 3 = .ok (.iload_n 1, 1) := by decide +kernel
theorem dL_log_4 : decode cL_log 4 = .ok (.iload_n 2, 1) := by decide +kernel
theorem dL_log_5 : decode cL_log 5 = .ok (.invokevirtual 116, 3) := by decide +kernel
theorem dL_log_8 : decode cL_log 8 = .ok (.i2l, 1) := by decide +kernel
theorem dL_log_9 : decode cL_log 9 = .ok (.lastore, 1) := by decide +kernel
theorem dL_log_10 : decode cL_log 10 = .ok (.goto 7, 3) := by decide +kernel
theorem dL_log_13 : decode cL_log 13 = .ok (.astore 4, 2) := by decide +kernel
theorem dL_log_15 : decode cL_log 15 = .ok (.iconst 1, 1) := by decide +kernel
theorem dL_log_16 : decode cL_log 16 = .ok (.ireturn, 1) := by decide +kernel
theorem dL_log_17 : decode cL_log 17 = .ok (.iconst 0, 1) := by decide +kernel
theorem dL_log_18 : decode cL_log 18 = .ok (.ireturn, 1) := by decide +kernel
/-- log -/
theorem w_log {ad : Nat → Nat} {r : am_R} {h : am_H} (x1 : Int32) (x2 : Int32) {d c mc ms : Nat} {a : Int32} {P : am_R → am_H → Prop} (hP : ∀ r' h' g, P r' h' → P r' (am_row h' 335 g)) (hX : am_XM mX11_log d mc ms [.ref 0, .int x1, .int x2] (am_VV ad) r h (ex_ret c a P) (ex_thr ["java/util/NoSuchElementException"] c P)) : am_WM mL_log hL_log (d + 1) mc ms [.ref 0, .int x1, .int x2, .ref 335] (am_VV ad) r h (ex_w c a P) := by
  refine am_WM.of (by decide +kernel) (Nat.le_of_ble_eq_true rfl) (fun X C T => ?_)
  show am_G X (am_VV ad) (0, 0) 0 [(0, .ref 0), (1, .int x1), (2, .int x2), (3, .ref 335)] [] r h
  refine w0_aload_n (pc := 0) C dL_log_0 rfl ?_
  refine w0_iconst (pc := 1) (n := 0) C dL_log_1 ?_
  refine w0_aload_n (pc := 2) C dL_log_2 rfl ?_
  refine w0_iload_n (pc := 3) C dL_log_3 rfl ?_
  refine w0_iload_n (pc := 4) C dL_log_4 rfl ?_
  refine w0_callVX (Y := mX11_log) (pc := 5) (st := [.int (nI 0), .ref 335]) (As := [.int x1, .int x2]) C dL_log_5 (am_mem 1720 (by decide +kernel) rfl) v_X11_log rfl rfl bn_0 sh_0 ⟨by decide, rfl⟩ (Nat.le_refl _) (Nat.le_of_eq (Nat.zero_add _)) (Nat.le_of_eq (Nat.zero_add _)) (Nat.le_of_ble_eq_true rfl) hX (fun E r1 h1 hq => ?_) (fun v r1 h1 hq => ?_)
  · obtain ⟨k, rfl, hk, hp⟩ := hq
    by_cases e0 : k = 0
    · subst e0
      obtain rfl : "java/util/NoSuchElementException" = E := Option.some.inj hk
      exact w0_catch (k := 1) (n := 4) (n2 := 15) C T (Nat.le_of_eq (Nat.zero_add _)) (Nat.le_of_eq (Nat.zero_add _)) ⟨rfl, hp, fun z => absurd z (by omega)⟩ [] [] (0, 10, 13, 26) rfl (fun z hz => nomatch hz) ⟨Nat.zero_le _, by decide⟩ (by decide) (am_mem 1131 (by decide +kernel) rfl) (am_nw 1168 (by decide +kernel) rfl) (by decide) (Or.inl ⟨dL_log_13, rfl⟩) dL_log_15 dL_log_16 rfl
    exact absurd ((List.getElem?_eq_some_iff.mp hk).1) (by show ¬ k < 1; omega)
  · obtain ⟨rfl, rfl, hp⟩ := hq
    refine w0_i2l (pc := 8) C dL_log_8 ?_
    refine w0_lastore (pc := 9) C dL_log_9 bn_335 sh_335 (vp_in_nI (by decide) (by decide)) ?_
    refine w0_goto (pc := 10) (tgt := 17) C dL_log_10 (by decide) ?_
    refine w0_iconst (pc := 17) (n := 0) C dL_log_17 ?_
    have eu : am_up h1 335 (nI 0).toNatClampNeg a = am_row h1 335 (upd (h1 335) 0 a) := by rw [nI_clamp (by decide)]; exact am_up_rw _ _ _ _
    rw [eu]
    exact w0_iret (pc := 18) T dL_log_18 rfl (Nat.le_of_eq (Nat.zero_add _)) (Nat.le_of_eq (Nat.zero_add _)) ⟨rfl, hP _ _ _ hp, fun _ => by rw [am_row_at]; exact rf_upd_eq⟩
abbrev hL_led : List (Nat × Nat × Nat × Nat) := [(0, 10, 13, 24)]
theorem dL_led_0 : decode cL_led 0 = .ok (.aload_n 3, 1) := by decide +kernel
theorem dL_led_1 : decode cL_led 1 = .ok (.iconst 0, 1) := by decide +kernel
theorem dL_led_2 : decode cL_led 2 = .ok (.aload_n 0, 1) := by decide +kernel
theorem dL_led_3 : decode cL_led 3 = .ok (.iload_n 1, 1) := by decide +kernel
theorem dL_led_4 : decode cL_led 4 = .ok (.iload_n 2, 1) := by decide +kernel
theorem dL_led_5 : decode cL_led 5 = .ok (.invokevirtual 119, 3) := by decide +kernel
theorem dL_led_8 : decode cL_led 8 = .ok (.i2l, 1) := by decide +kernel
theorem dL_led_9 : decode cL_led 9 = .ok (.lastore, 1) := by decide +kernel
theorem dL_led_10 : decode cL_led 10 = .ok (.goto 7, 3) := by decide +kernel
theorem dL_led_13 : decode cL_led 13 = .ok (.astore 4, 2) := by decide +kernel
theorem dL_led_15 : decode cL_led 15 = .ok (.iconst 1, 1) := by decide +kernel
theorem dL_led_16 : decode cL_led 16 = .ok (.ireturn, 1) := by decide +kernel
theorem dL_led_17 : decode cL_led 17 = .ok (.iconst 0, 1) := by decide +kernel
theorem dL_led_18 : decode cL_led 18 = .ok (.ireturn, 1) := by decide +kernel
/-- led -/
theorem w_led {ad : Nat → Nat} {r : am_R} {h : am_H} (x1 : Int32) (x2 : Int32) {d c mc ms : Nat} {a : Int32} {P : am_R → am_H → Prop} (hP : ∀ r' h' g, P r' h' → P r' (am_row h' 335 g)) (hX : am_XM mX11_led d mc ms [.ref 0, .int x1, .int x2] (am_VV ad) r h (ex_ret c a P) (ex_thr ["java/lang/IndexOutOfBoundsException"] c P)) : am_WM mL_led hL_led (d + 1) mc ms [.ref 0, .int x1, .int x2, .ref 335] (am_VV ad) r h (ex_w c a P) := by
  refine am_WM.of (by decide +kernel) (Nat.le_of_ble_eq_true rfl) (fun X C T => ?_)
  show am_G X (am_VV ad) (0, 0) 0 [(0, .ref 0), (1, .int x1), (2, .int x2), (3, .ref 335)] [] r h
  refine w0_aload_n (pc := 0) C dL_led_0 rfl ?_
  refine w0_iconst (pc := 1) (n := 0) C dL_led_1 ?_
  refine w0_aload_n (pc := 2) C dL_led_2 rfl ?_
  refine w0_iload_n (pc := 3) C dL_led_3 rfl ?_
  refine w0_iload_n (pc := 4) C dL_led_4 rfl ?_
  refine w0_callVX (Y := mX11_led) (pc := 5) (st := [.int (nI 0), .ref 335]) (As := [.int x1, .int x2]) C dL_led_5 (am_mem 1733 (by decide +kernel) rfl) v_X11_led rfl rfl bn_0 sh_0 ⟨by decide, rfl⟩ (Nat.le_refl _) (Nat.le_of_eq (Nat.zero_add _)) (Nat.le_of_eq (Nat.zero_add _)) (Nat.le_of_ble_eq_true rfl) hX (fun E r1 h1 hq => ?_) (fun v r1 h1 hq => ?_)
  · obtain ⟨k, rfl, hk, hp⟩ := hq
    by_cases e0 : k = 0
    · subst e0
      obtain rfl : "java/lang/IndexOutOfBoundsException" = E := Option.some.inj hk
      exact w0_catch (k := 1) (n := 4) (n2 := 15) C T (Nat.le_of_eq (Nat.zero_add _)) (Nat.le_of_eq (Nat.zero_add _)) ⟨rfl, hp, fun z => absurd z (by omega)⟩ [] [] (0, 10, 13, 24) rfl (fun z hz => nomatch hz) ⟨Nat.zero_le _, by decide⟩ (by decide) (am_mem 1130 (by decide +kernel) rfl) (am_nw 1142 (by decide +kernel) rfl) (by decide) (Or.inl ⟨dL_led_13, rfl⟩) dL_led_15 dL_led_16 rfl
    exact absurd ((List.getElem?_eq_some_iff.mp hk).1) (by show ¬ k < 1; omega)
  · obtain ⟨rfl, rfl, hp⟩ := hq
    refine w0_i2l (pc := 8) C dL_led_8 ?_
    refine w0_lastore (pc := 9) C dL_led_9 bn_335 sh_335 (vp_in_nI (by decide) (by decide)) ?_
    refine w0_goto (pc := 10) (tgt := 17) C dL_led_10 (by decide) ?_
    refine w0_iconst (pc := 17) (n := 0) C dL_led_17 ?_
    have eu : am_up h1 335 (nI 0).toNatClampNeg a = am_row h1 335 (upd (h1 335) 0 a) := by rw [nI_clamp (by decide)]; exact am_up_rw _ _ _ _
    rw [eu]
    exact w0_iret (pc := 18) T dL_led_18 rfl (Nat.le_of_eq (Nat.zero_add _)) (Nat.le_of_eq (Nat.zero_add _)) ⟨rfl, hP _ _ _ hp, fun _ => by rw [am_row_at]; exact rf_upd_eq⟩
end WRAP
