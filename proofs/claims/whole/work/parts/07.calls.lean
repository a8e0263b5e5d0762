/-! CONTRACTS over the abstract machine: how one is proved (am_CM.of), how one is used (am_callV ..), how a method ends -/
section AMC
def am_sig (Y : am_M) (n : Nat) : Prop := Y.1.cls ≠ "java/lang/invoke/MethodHandle" ∧ Y.1.cls ≠ "java/lang/invoke/VarHandle" ∧ (parseMethodDescriptor Y.1.desc).map (fun d => d.parameters.length) = some n
def am_cd (Y : am_M) : Prop := Cond.code Y.1 Y.2.1 Y.2.2.1 Y.2.2.2 ∈ am_GW ∧ Cond.initialized Y.1.cls ∈ am_GW ∧ Y.2.2.1 ≤ 45
def am_IV (Y : am_M) (n : Nat) : Prop := am_sig Y n ∧ am_cd Y ∧ Cond.instanceMethod Y.1 ∈ am_GW ∧ Cond.selects Y.1.cls Y.1 Y.1 ∈ am_GW
def am_IS (Y : am_M) (n : Nat) : Prop := am_sig Y n ∧ am_cd Y ∧ Cond.static Y.1 ∈ am_GW
def am_II (Y : am_M) (n : Nat) : Prop := am_sig Y n ∧ am_cd Y ∧ Cond.instanceMethod Y.1 ∈ am_GW ∧ Y.1.name = "<init>" ∧ Y.2.2.2 = none
theorem am_E.same {adK : Nat → Nat} {A : Nat → Prop} {u U : State} {H : Heap} (hv : U.vm = u.vm) (h : am_E adK A u H) : am_E adK A U H := by
  have hal : u.vm.Alike U.vm := by rw [hv]; exact Vm.Alike.refl _
  obtain ⟨h1, h2, h3, ⟨h4, h5⟩, ⟨h6, h7⟩, h8⟩ := h
  refine ⟨fun w hw => ?_, fun q hq => (h2 q hq).same hv, fun k hk' => ?_, ⟨h4.moved hal, h5.moved hal⟩, ⟨h6.moved hal, va_Zq.moved hal h7⟩, fun q hq => (h8 q hq).moved hal⟩
  · have hs := (List.mem_filter.mp hw).2
    have hn := h1 w hw
    cases w <;> first | exact va_Nw.same rfl hv.symm hn | exact (Bool.false_ne_true hs).elim
  · obtain ⟨adV, hV⟩ := h3 k hk'
    exact ⟨adV, hV.moved hal⟩
theorem am_blind {dC : Nat → ClassId} {dI : Nat → Nat → Nat} {dA : Nat → ClassId} {adK : Nat → Nat} {V : am_V} {sz : Nat} {r : am_R} {h : am_H} {as : List Value} : FrameBlind (va_Pc as (am_Pre dC dI dA adK V sz r h)) := by
  intro a U g mk q
  obtain ⟨q0, q1, q2, q3, q4, q5, q6⟩ := q
  exact ⟨q0, q1, q2, va_K.moved (u := U) (U := U.calling g mk a) (Vm.Alike.refl U.vm) q3, q4, am_E.same (u := U) (U := U.calling g mk a) rfl q5, q6⟩
theorem am_slots (ad : Nat → Nat) (vs : List Value) : (lg_sl (vs.map (am_cv ad))).length = (lg_sl vs).length := by
  induction vs with
  | nil => rfl
  | cons v vs ih =>
    simp only [lg_sl, List.map_cons, List.flatMap_cons, List.length_append, am_cat] at ih ⊢
    rw [ih]
    by_cases hc : v.category = 2 <;> simp [hc]
theorem am_largs (ad : Nat → Nat) (vs : List Value) : ∀ i : Nat, lv_args i (vs.map (am_cv ad)) = (lv_args i vs).map (am_cvp ad) := by
  induction vs with
  | nil => intro i; rfl
  | cons v vs ih =>
    intro i
    simp only [List.map_cons, lv_args, am_cat, ih]
    rfl
theorem am_CM.of {Y : am_M} {d mc ms : Nat} {as : List Value} {V : am_V} {r : am_R} {h : am_H} {Q : Option Value → am_R → am_H → Prop} (hn : plainName Y.1.cls = true) (hlen : (lg_sl as).length ≤ Y.2.2.1)
    (body : ∀ X : am_X, am_C Y d mc ms X → am_T Y X V mc ms Q → am_G X V (0, 0) 0 (lv_args 0 as) [] r h) : am_CM Y d mc ms as V r h Q := by
  intro l hl dC dI dA adK sz
  refine Met.ofW (cc := Y.2.1) (maxL := Y.2.2.1) (ret := Y.2.2.2) hn rfl ?_
  intro p e s m args below meth c s₁ B hml hv
  obtain ⟨rfl, hsz, hP, hK, hD0, hE, hstr⟩ := hv
  have hD : am_Dj (am_A V sz) V := ⟨hD0.1, fun i hi => Or.inl ⟨i, hi, rfl⟩⟩
  have hA : ∀ q, s.heap.size ≤ q → am_A V sz q := fun q hq => Or.inr (by omega)
  have hS : va_S (am_A V sz) s.heap s.heap [] := va_S.rf
  have hloc := lv_entry (as.map (am_cv V.1)) (n := Y.2.2.1) (by rw [am_slots]; exact hlen)
  rw [lg_entry_eq]
  generalize (lg_sl (as.map (am_cv V.1)) ++ List.replicate (Y.2.2.1 - (lg_sl (as.map (am_cv V.1))).length) Slot.unset).toArray = ls at hloc ⊢
  rw [am_largs] at hloc
  have hts : ∀ w ∈ am_wl Y, w.before (as.map (am_cv V.1)).toArray s = true := atoms_spec (ws := am_wl Y) B.pre
  have K := body ((p, l, e, (headSpec (am_wl Y) (am_rm d mc ms)).room), (s, m, (as.map (am_cv V.1)).toArray, below, meth, c), (am_A V sz, MQ below (am_Post dC dI dA V sz Q) (as.map (am_cv V.1)).toArray s mc ms (am_A V sz)), (dC, dI, dA), adK)
    ⟨⟨B.exec, B.bytes, hml, B.returns, B.notSynchronized, (name_of_methodNamed B.named B.method).1⟩, ⟨findClass_of_methodNamed B.named, hts, hl, hK⟩, ⟨hA, hE⟩, Nat.le_refl d, Nat.le_refl (64 * d), rfl, rfl⟩ ?_
  · exact K s.heap [] ls ⟨hP, hD, hS, hstr⟩ (by rw [hml]; exact hloc)
  · intro v r' h' hq cs pc H locs lsA hc1 hc2 hdec hw
    obtain ⟨hP1, hD1, hS1, -⟩ := hw
    have hst : ∀ t : State, t.heap = H → am_Post dC dI dA V sz Q (as.map (am_cv V.1)).toArray s (.returned (v.map (am_cv V.1))) t := fun t ht => ⟨⟨v, r', h', rfl, hq, by rw [ht]; exact hP1⟩, hS1.F ht⟩
    refine W.widen hc1 hc2 ?_
    rcases hdec with ⟨x, ty, rfl, hd, hrt, hnar⟩ | ⟨rfl, hd, hrt⟩
    · exact W.zret B.exec B.bytes (B.returns.trans hrt) hnar (fun t ht _ => hst t ht) hS1.2.2 hd B.notSynchronized
    · exact W.vret B.exec B.bytes (B.returns.trans hrt) (fun t ht _ => hst t ht) hS1.2.2 hd B.notSynchronized
variable {M : am_M} {D MC MS : Nat} {X : am_X} {V : am_V} {cs : Nat × Nat} {pc : Nat} {ls ls' : List (Nat × Value)} {st st0 : List Value} {r : am_R} {h : am_H}
/-- the end, with a number -/
theorem am_iret {mc ms : Nat} {Q : Option Value → am_R → am_H → Prop} {x : Int32} {ty : FieldType} (T : am_T M X V mc ms Q) (hd : decode M.2.1 pc = .ok (.ireturn, 1)) (hr : M.2.2.2 = some ty) (hn : narrow ty (.int x) = .int x) (h1 : cs.1 ≤ mc) (h2 : cs.2 ≤ ms) (hq : Q (some (.int x)) r h) : am_G X V cs pc ls [.int x] r h := by
  obtain ⟨⟨p, l, e, R⟩, ⟨s, m, args, below, meth, c⟩, ⟨A, Z⟩, ⟨dC, dI, dA⟩, adK⟩ := X
  intro H locs lsA hw hl
  exact T (some (.int x)) r h hq cs pc H locs lsA h1 h2 (Or.inl ⟨x, ty, rfl, hd, hr, hn⟩) hw
theorem am_vret {mc ms : Nat} {Q : Option Value → am_R → am_H → Prop} (T : am_T M X V mc ms Q) (hd : decode M.2.1 pc = .ok (.return_, 1)) (hr : M.2.2.2 = none) (h1 : cs.1 ≤ mc) (h2 : cs.2 ≤ ms) (hq : Q none r h) : am_G X V cs pc ls [] r h := by
  obtain ⟨⟨p, l, e, R⟩, ⟨s, m, args, below, meth, c⟩, ⟨A, Z⟩, ⟨dC, dI, dA⟩, adK⟩ := X
  intro H locs lsA hw hl
  exact T none r h hq cs pc H locs lsA h1 h2 (Or.inr ⟨rfl, hd, hr⟩) hw
theorem am_inA {A : Nat → Prop} {H0 H : Heap} {locs : List Loc} (hA : ∀ q, H0.size ≤ q → A q) (hD : am_Dj A V) (hS : va_S A H0 H locs) : ∀ q, am_A V H.size q → A q := by
  intro q hq
  rcases hq with ⟨i, hi, rfl⟩ | hq
  · exact hD.2 i hi
  · exact hA q (Nat.le_trans hS.1 hq)
/-- behind a call -/
theorem am_after {p : Program} {l : Launch} {e : Env} {R : Room} {s : State} {m : MethodId} {args : Array Value} {below : List Frame} {meth : Method} {c : Code} {A : Nat → Prop} {Z : State → Prop} {dC : Nat → ClassId} {dI : Nat → Nat → Nat} {dA : Nat → ClassId} {adK : Nat → Nat} {H : Heap} {locs : List Loc} {mc ms : Nat} {lsA : Array Slot} {sv rest : List Value} {a : Array Value} {Q : Option Value → am_R → am_H → Prop}
    (hw : am_w ((p, l, e, R), (s, m, args, below, meth, c), (A, Z), (dC, dI, dA), adK) V r h H locs) (hA : ∀ q, s.heap.size ≤ q → A q)
    (hr : va_Run p l e R s m args below meth c H locs cs.1 cs.2 mc ms (F0 m pc lsA sv) rest (am_Post dC dI dA V H.size Q a) (am_A V H.size))
    (kk : ∀ (v : Option Value) (r' : am_R) (h' : am_H), Q v r' h' → ∀ (H1 : Heap) (locs1 : List Loc), am_w ((p, l, e, R), (s, m, args, below, meth, c), (A, Z), (dC, dI, dA), adK) V r' h' H1 locs1 → W p l e R s m args below meth c H1 locs1 (cs.1 + mc) (cs.2 + ms) Z (F0 m (pc + 3) lsA ((v.map (am_cv V.1)).toList ++ rest))) :
    W p l e R s m args below meth c H locs cs.1 cs.2 Z (F0 m pc lsA sv) := by
  obtain ⟨hP, hD, hS, hstr⟩ := hw
  intro T hT X
  obtain ⟨v, st₀, t, T', L, h0, X', hL, e1, e2, ⟨⟨v', r', h', hv, hq, hP'⟩, hF⟩, st⟩ := hr T hT X
  cases hv
  have hin := am_inA hA hD hS
  obtain ⟨-, -, hS'⟩ := vx_keep (H := H) (A0 := A) (A1 := am_A V H.size) h0 e1 hS (fun q _ hq => hin q hq) hin hL hF
  obtain ⟨t2, a1, b1⟩ := kk v' r' h' hq T'.heap (locs ++ L) ⟨by rw [e1]; exact hP', hD, hS', hstr⟩ T' rfl X'
  exact ⟨t2, st t2 a1, b1⟩
theorem am_stk {v : Option Value} {ad : Nat → Nat} : (v.map (am_cv ad)).toList ++ st.map (am_cv ad) = (v.toList ++ st).map (am_cv ad) := by
  cases v <;> simp
theorem am_pre {p : Program} {l : Launch} {e : Env} {R : Room} {s : State} {m : MethodId} {args : Array Value} {below : List Frame} {meth : Method} {c : Code} {A : Nat → Prop} {Z : State → Prop} {dC : Nat → ClassId} {dI : Nat → Nat → Nat} {dA : Nat → ClassId} {adK : Nat → Nat} {H : Heap} {locs : List Loc} {as : List Value}
    (hw : am_w ((p, l, e, R), (s, m, args, below, meth, c), (A, Z), (dC, dI, dA), adK) V r h H locs) (hA : ∀ q, s.heap.size ≤ q → A q) (hK : va_K (dC, dI) vwCl (am_ty dA) s) (hE : am_E adK A s s.heap) :
    ∀ U : State, U.heap = H → s.WarmedH U.vm → va_Pc (as.map (am_cv V.1)) (am_Pre dC dI dA adK V H.size r h) (as.map (am_cv V.1)).toArray U := by
  intro U hU hW
  obtain ⟨hP, hD, hS, hstr⟩ := hw
  exact ⟨rfl, by rw [hU], by rw [hU]; exact hP, va_K.moved hW.alike hK, ⟨hD.1, fun _ _ => trivial⟩, by rw [hU]; exact hE.pass hW hS.2.1 (am_inA hA hD hS), hstr⟩
theorem am_wsy {Y : am_M} (hc : am_cd Y) : ∀ w ∈ am_wl Y, w ∈ am_GW := fun w hw => by
  rcases List.mem_cons.mp hw with rfl | h
  · exact hc.1
  · exact h
theorem am_callV {Y : am_M} {n d mc ms ix b ci : Nat} {As : List Value} {Q : Option Value → am_R → am_H → Prop} (C : am_C M D MC MS X) (hd : decode M.2.1 pc = .ok (.invokevirtual ix, 3)) (hl : Cond.methodLink M.1.cls ix Y.1 ∈ am_GW) (hY : am_IV Y n) (hst : st0 = As.reverse ++ .ref b :: st) (hn : As.length = n)
    (hb : b < V.2.1) (hs : V.2.2 b = (0, ci)) (hci : ci < 13 ∧ (am_cl ci).1 = Y.1.cls) (hD : d + 1 ≤ D) (h1 : cs.1 + mc ≤ MC) (h2 : cs.2 + ms ≤ MS) (h8 : (st.map fun v => v.category).sum ≤ 8)
    (hct : am_CM Y d mc ms (.ref b :: As) V r h Q) (k : ∀ (v : Option Value) (r' : am_R) (h' : am_H), Q v r' h' → am_G X V (cs.1 + mc, cs.2 + ms) (pc + 3) ls (v.toList ++ st) r' h') : am_G X V cs pc ls st0 r h := by
  obtain ⟨⟨p, l, e, R⟩, ⟨s, m, args, below, meth, c⟩, ⟨A, Z⟩, ⟨dC, dI, dA⟩, adK⟩ := X
  obtain ⟨⟨hx, hb9, hml, hrt, hlk, hnm⟩, ⟨hown, hts, htr, hK⟩, ⟨hA, hE⟩, hDf, hDl, hMC, hMS⟩ := C
  intro H locs lsA hw hloc
  obtain ⟨⟨sg1, sg2, sg3⟩, hcd, hin, hsel⟩ := hY
  subst hst
  have hG : GoodIn (am_wl M) (wsV M.1.cls ix Y.1.cls Y.1 (am_wl Y)) := am_gi (fun w hw => by
    rcases List.mem_append.mp hw with h | h
    · simp only [List.mem_cons, List.not_mem_nil, or_false] at h
      rcases h with rfl | rfl | rfl | rfl
      · exact hl
      · exact hin
      · exact hsel
      · exact hcd.2.1
    · exact am_wsy hcd w h)
  obtain ⟨htc, -, -, -⟩ := am_tball hci.1
  have he : (am_ws dA V r h)[b]? = some (V.1 b, .inr (ci, (List.range (am_cl ci).2.2).map (am_fv V.1 (am_cl ci).2.1 (r b) (h b)))) := by rw [am_ws_at hb, hs]; rfl
  have hrecv := va_recv hK hw.1 htc he
  rw [hci.2] at hrecv
  refine am_after hw hA (va_runV (As := As.map (am_cv V.1)) (rest := st.map (am_cv V.1)) (b := V.1 b) (C := Y.1.cls) ⟨hx, hb9, hml, hown, hts⟩ (hct l htr dC dI dA adK H.size)
    (cwV n hts hG rfl rfl rfl ⟨rfl, sg1, sg2, sg3⟩ ⟨by show d + 1 ≤ R.frames; omega, by show 8 + (Y.2.2.1 + 11) + 64 * d ≤ R.locals; have := hcd.2.2; omega⟩) ⟨am_blind, hrecv, am_pre (as := .ref b :: As) hw hA hK hE⟩ rfl (by rw [List.length_map]; exact hn) (hloc.1.trans hml) ?_ (lv_room (by rw [am_cats]; exact h8)) hd ⟨by omega, by omega⟩) ?_
  · simp [am_cv]
  · intro v r' h' hq H1 locs1 hw1
    rw [am_stk]
    exact k v r' h' hq H1 locs1 lsA hw1 hloc
theorem am_callS {Y : am_M} {n d mc ms ix : Nat} {As : List Value} {Q : Option Value → am_R → am_H → Prop} (C : am_C M D MC MS X) (hd : decode M.2.1 pc = .ok (.invokestatic ix, 3)) (hl : Cond.methodLink M.1.cls ix Y.1 ∈ am_GW) (hY : am_IS Y n) (hst : st0 = As.reverse ++ st) (hn : As.length = n)
    (hD : d + 1 ≤ D) (h1 : cs.1 + mc ≤ MC) (h2 : cs.2 + ms ≤ MS) (h8 : (st.map fun v => v.category).sum ≤ 8)
    (hct : am_CM Y d mc ms As V r h Q) (k : ∀ (v : Option Value) (r' : am_R) (h' : am_H), Q v r' h' → am_G X V (cs.1 + mc, cs.2 + ms) (pc + 3) ls (v.toList ++ st) r' h') : am_G X V cs pc ls st0 r h := by
  obtain ⟨⟨p, l, e, R⟩, ⟨s, m, args, below, meth, c⟩, ⟨A, Z⟩, ⟨dC, dI, dA⟩, adK⟩ := X
  obtain ⟨⟨hx, hb9, hml, hrt, hlk, hnm⟩, ⟨hown, hts, htr, hK⟩, ⟨hA, hE⟩, hDf, hDl, hMC, hMS⟩ := C
  intro H locs lsA hw hloc
  obtain ⟨⟨sg1, sg2, sg3⟩, hcd, hstat⟩ := hY
  subst hst
  have good : ∀ w ∈ am_GW, w.before args s = true := fun w h => hts w (List.mem_cons_of_mem _ h)
  refine am_after hw hA (va_runS (As := As.map (am_cv V.1)) (rest := st.map (am_cv V.1)) ⟨hx, hb9, hml, hown, hts⟩ (hct l htr dC dI dA adK H.size)
    ⟨callB_of n hts (am_gi (am_wsy hcd)) rfl rfl rfl (good _ hcd.2.1) (good _ hl) ⟨sg1, sg2, sg3⟩ ⟨by show d + 1 ≤ R.frames; omega, by show 8 + (Y.2.2.1 + 11) + 64 * d ≤ R.locals; have := hcd.2.2; omega⟩, good _ hstat⟩ ⟨am_blind, am_pre (as := As) hw hA hK hE⟩ rfl (by rw [List.length_map]; exact hn) (hloc.1.trans hml) ?_ (lv_room (by rw [am_cats]; exact h8)) hd ⟨by omega, by omega⟩) ?_
  · simp
  · intro v r' h' hq H1 locs1 hw1
    rw [am_stk]
    exact k v r' h' hq H1 locs1 lsA hw1 hloc
theorem am_callSN {Y : am_M} {host : String} {n d mc ms ix : Nat} {As : List Value} {Q : Option Value → am_R → am_H → Prop} (C : am_C M D MC MS X) (hd : decode M.2.1 pc = .ok (.invokestatic ix, 3)) (hl : Cond.methodLinkNest M.1.cls ix Y.1 host ∈ am_NW) (hY : am_IS Y n) (hst : st0 = As.reverse ++ st) (hn : As.length = n)
    (hD : d + 1 ≤ D) (h1 : cs.1 + mc ≤ MC) (h2 : cs.2 + ms ≤ MS) (h8 : (st.map fun v => v.category).sum ≤ 8)
    (hct : am_CM Y d mc ms As V r h Q) (k : ∀ (v : Option Value) (r' : am_R) (h' : am_H), Q v r' h' → am_G X V (cs.1 + mc, cs.2 + ms) (pc + 3) ls (v.toList ++ st) r' h') : am_G X V cs pc ls st0 r h := by
  obtain ⟨⟨p, l, e, R⟩, ⟨s, m, args, below, meth, c⟩, ⟨A, Z⟩, ⟨dC, dI, dA⟩, adK⟩ := X
  obtain ⟨⟨hx, hb9, hml, hrt, hlk, hnm⟩, ⟨hown, hts, htr, hK⟩, ⟨hA, hE⟩, hDf, hDl, hMC, hMS⟩ := C
  intro H locs lsA hw hloc
  obtain ⟨⟨sg1, sg2, sg3⟩, hcd, hstat⟩ := hY
  subst hst
  have good : ∀ w ∈ am_GW, w.before args s = true := fun w h => hts w (List.mem_cons_of_mem _ h)
  refine am_after hw hA (va_runSN (As := As.map (am_cv V.1)) (rest := st.map (am_cv V.1)) ⟨hx, hb9, hml, hown, hts⟩ (hct l htr dC dI dA adK H.size)
    ⟨va_cnB n hts (am_gi (am_wsy hcd)) rfl rfl rfl (hE.1 _ hl) (good _ hcd.2.1) ⟨sg1, sg2, sg3⟩ ⟨by show d + 1 ≤ R.frames; omega, by show 8 + (Y.2.2.1 + 11) + 64 * d ≤ R.locals; have := hcd.2.2; omega⟩, good _ hstat, trivial⟩ ⟨am_blind, am_pre (as := As) hw hA hK hE⟩ rfl (by rw [List.length_map]; exact hn) (hloc.1.trans hml) ?_ (lv_room (by rw [am_cats]; exact h8)) hd ⟨by omega, by omega⟩) ?_
  · simp
  · intro v r' h' hq H1 locs1 hw1
    rw [am_stk]
    exact k v r' h' hq H1 locs1 lsA hw1 hloc
end AMC
