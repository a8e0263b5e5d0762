/-! THE CONTRACT OF A CONSTRUCTOR: from n cells to n' cells -/
section NEWM
variable {M : am_M} {D MC MS : Nat} {X : am_X} {cs : Nat × Nat} {pc : Nat} {ls : List (Nat × Value)} {st st0 : List Value} {r : am_R} {h : am_H} {ad : Nat → Nat} {n : Nat} {sh : am_Sh}
/-- the addresses ad' are ad's but for the new cells n .. n' -/
def nw_ok (n n' : Nat) (ad ad' : Nat → Nat) : Prop := ∀ i, i < n ∨ n' ≤ i → ad' i = ad i
/-- v names no cell that is to be made -/
def nw_old (n n' : Nat) (v : Value) : Prop := ∀ i, v = .ref i → i < n ∨ n' ≤ i
theorem nw_old_cv {n' : Nat} {ad' : Nat → Nat} {v : Value} (ho : nw_ok n n' ad ad') (hv : nw_old n n' v) : am_cv ad' v = am_cv ad v := by
  cases v with
  | ref i => exact congrArg Value.ref (ho i (hv i rfl))
  | _ => rfl
theorem nw_ok_rf {n' : Nat} : nw_ok n n' ad ad := fun _ _ => rfl
theorem nw_ok_tr {n1 n2 : Nat} {ad1 ad2 : Nat → Nat} (h12 : n ≤ n1 ∧ n1 ≤ n2) (h1 : nw_ok n n1 ad ad1) (h2 : nw_ok n1 n2 ad1 ad2) : nw_ok n n2 ad ad2 := fun i hi => by
  rw [h2 i (by omega), h1 i (by omega)]
theorem nw_ok_new {q : Nat} : nw_ok n (n + 1) ad (nw_ad ad n q) := fun i hi => nw_ad_o (by omega)
def nw_T (M : am_M) (X : am_X) (ad : Nat → Nat) (n n' : Nat) (sh : am_Sh) (mc ms : Nat) (Q : am_R → am_H → Prop) : Prop := match X with
  | ((p, l, e, R), (s, m, args, below, meth, c), (A, Z), (dC, dI, dA), adK) =>
    ∀ (ad' : Nat → Nat) (r : am_R) (h : am_H), nw_ok n n' ad ad' → Q r h → ∀ (cs : Nat × Nat) (pc : Nat) (H : Heap) (locs : List Loc) (lsA : Array Slot), cs.1 ≤ mc → cs.2 ≤ ms → decode M.2.1 pc = .ok (.return_, 1) → M.2.2.2 = none →
      am_w ((p, l, e, R), (s, m, args, below, meth, c), (A, Z), (dC, dI, dA), adK) (ad', n', sh) r h H locs → W p l e R s m args below meth c H locs cs.1 cs.2 Z (F0 m pc lsA [])
def nw_Post (dC : Nat → ClassId) (dI : Nat → Nat → Nat) (dA : Nat → ClassId) (ad : Nat → Nat) (n n' : Nat) (sh : am_Sh) (sz : Nat) (Q : am_R → am_H → Prop) : Array Value → State → Outcome → State → Prop := fun _ s1 o t =>
  (∃ (ad' : Nat → Nat) (r' : am_R) (h' : am_H), o = .returned none ∧ nw_ok n n' ad ad' ∧ Q r' h' ∧ va_P (dC, dI) vwCl (am_ws dA (ad', n', sh) r' h') t.heap ∧ am_Dj (am_A (ad, n, sh) sz) (ad', n', sh)) ∧ va_F (am_A (ad, n, sh) sz) s1 t
def nw_Pre (dC : Nat → ClassId) (dI : Nat → Nat → Nat) (dA : Nat → ClassId) (adK : Nat → Nat) (V : am_V) (sz : Nat) (r : am_R) (h : am_H) (U : State) : Prop := am_Pre dC dI dA adK V sz r h U ∧ va_AO "ForgetWar$Scene" U
def am_NM (Y : am_M) (d mc ms : Nat) (as : List Value) (ad : Nat → Nat) (n n' : Nat) (sh : am_Sh) (r : am_R) (h : am_H) (Q : am_R → am_H → Prop) : Prop :=
  ∀ (l : Launch), l.stackTraces = false → ∀ (dC : Nat → ClassId) (dI : Nat → Nat → Nat) (dA : Nat → ClassId) (adK : Nat → Nat) (sz : Nat),
    Met l Y.1 (am_wl Y) (am_rm d mc ms) (va_Pc (as.map (am_cv ad)) (nw_Pre dC dI dA adK (ad, n, sh) sz r h)) (nw_Post dC dI dA ad n n' sh sz Q) mc ms (am_A (ad, n, sh) sz)
theorem nw_blind {dC : Nat → ClassId} {dI : Nat → Nat → Nat} {dA : Nat → ClassId} {adK : Nat → Nat} {V : am_V} {sz : Nat} {as : List Value} : FrameBlind (va_Pc as (nw_Pre dC dI dA adK V sz r h)) := by
  intro a U g mk q
  obtain ⟨q0, ⟨q1, q2, q3, q4, q5, q6⟩, q7⟩ := q
  exact ⟨q0, ⟨q1, q2, va_K.moved (u := U) (U := U.calling g mk a) (Vm.Alike.refl U.vm) q3, q4, am_E.same (u := U) (U := U.calling g mk a) rfl q5, q6⟩, va_AO.moved (u := U) (U := U.calling g mk a) (Vm.Alike.refl U.vm) q7⟩
theorem am_NM.of {Y : am_M} {d mc ms : Nat} {as : List Value} {n' : Nat} {Q : am_R → am_H → Prop} (hn : plainName Y.1.cls = true) (hlen : (lg_sl as).length ≤ Y.2.2.1)
    (body : ∀ X : am_X, am_C Y d mc ms X → nw_O X → nw_T Y X ad n n' sh mc ms Q → am_G X (ad, n, sh) (0, 0) 0 (lv_args 0 as) [] r h) : am_NM Y d mc ms as ad n n' sh r h Q := by
  intro l hl dC dI dA adK sz
  refine Met.ofW (cc := Y.2.1) (maxL := Y.2.2.1) (ret := Y.2.2.2) hn rfl ?_
  intro p e s m args below meth c s₁ B hml hv
  obtain ⟨rfl, ⟨hsz, hP, hK, hD0, hE, hstr⟩, hO⟩ := hv
  have hD : am_Dj (am_A (ad, n, sh) sz) (ad, n, sh) := ⟨hD0.1, fun i hi => Or.inl ⟨i, hi, rfl⟩⟩
  have hA : ∀ q, s.heap.size ≤ q → am_A (ad, n, sh) sz q := fun q hq => Or.inr (by omega)
  have hS : va_S (am_A (ad, n, sh) sz) s.heap s.heap [] := va_S.rf
  have hloc := lv_entry (as.map (am_cv ad)) (n := Y.2.2.1) (by rw [am_slots]; exact hlen)
  rw [lg_entry_eq]
  generalize (lg_sl (as.map (am_cv ad)) ++ List.replicate (Y.2.2.1 - (lg_sl (as.map (am_cv ad))).length) Slot.unset).toArray = ls at hloc ⊢
  rw [am_largs] at hloc
  have hts : ∀ w ∈ am_wl Y, w.before (as.map (am_cv ad)).toArray s = true := atoms_spec (ws := am_wl Y) B.pre
  have K := body ((p, l, e, (headSpec (am_wl Y) (am_rm d mc ms)).room), (s, m, (as.map (am_cv ad)).toArray, below, meth, c), (am_A (ad, n, sh) sz, MQ below (nw_Post dC dI dA ad n n' sh sz Q) (as.map (am_cv ad)).toArray s mc ms (am_A (ad, n, sh) sz)), (dC, dI, dA), adK)
    ⟨⟨B.exec, B.bytes, hml, B.returns, B.notSynchronized, (name_of_methodNamed B.named B.method).1⟩, ⟨findClass_of_methodNamed B.named, hts, hl, hK⟩, ⟨hA, hE⟩, Nat.le_refl d, Nat.le_refl (64 * d), rfl, rfl⟩ hO ?_
  · exact K s.heap [] ls ⟨hP, hD, hS, hstr⟩ (by rw [hml]; exact hloc)
  · intro ad' r' h' hok hq cs pc H locs lsA hc1 hc2 hd hrt hw
    obtain ⟨hP1, hD1, hS1, -⟩ := hw
    have hst : ∀ t : State, t.heap = H → nw_Post dC dI dA ad n n' sh sz Q (as.map (am_cv ad)).toArray s (.returned none) t := fun t ht => ⟨⟨ad', r', h', rfl, hok, hq, by rw [ht]; exact hP1, hD1⟩, hS1.F ht⟩
    refine W.widen hc1 hc2 ?_
    exact W.vret B.exec B.bytes (B.returns.trans hrt) (fun t ht _ => hst t ht) hS1.2.2 hd B.notSynchronized
/-- the constructor's end -/
theorem am_nret {mc ms n' : Nat} {Q : am_R → am_H → Prop} {ad' : Nat → Nat} (T : nw_T M X ad n n' sh mc ms Q) (hok : nw_ok n n' ad ad') (hd : decode M.2.1 pc = .ok (.return_, 1)) (hr : M.2.2.2 = none) (h1 : cs.1 ≤ mc) (h2 : cs.2 ≤ ms) (hq : Q r h) : am_G X (ad', n', sh) cs pc ls [] r h := by
  obtain ⟨⟨p, l, e, R⟩, ⟨s, m, args, below, meth, c⟩, ⟨A, Z⟩, ⟨dC, dI, dA⟩, adK⟩ := X
  intro H locs lsA hw hl
  exact T ad' r h hok hq cs pc H locs lsA h1 h2 hd hr hw
end NEWM
