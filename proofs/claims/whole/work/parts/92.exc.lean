/-! EXCEPTIONS over the abstract machine: am_XM, a method that returns or throws; how one throws, how it is called, how what it throws is caught. ex_ctor follows the library's proof of a constructor that throws (BundleOwnThrow), but the first constructor's link and bytes are left open (NoSuchElementException's link stands elsewhere than the others'). -/
section EXC
def ex_ru : String := "java/lang/RuntimeException"
def ex_ns : List String := ["java/lang/Exception"]
/-- the words of 'new X(text)' thrown at once -/
def ex_at (own : String) (ic : Nat) (X : String) (ix : Nat) (rx : ByteArray) : List Cond :=
  Bundle.throwableAtoms ++ Bundle.throwableSAtoms ++ Bundle.passSAtoms X ex_ru ix rx ++ Bundle.chainSAtoms ex_ru ex_ns ++
  [.methodLink own ic (Bundle.initS X), .instantiable X 6, .selects X Bundle.tFill0 Bundle.tFill0, .selects X Bundle.tFill Bundle.tFill,
   .lays X Bundle.tN "cause" "Ljava/lang/Throwable;", .lays X Bundle.tN "stackTrace" Bundle.steD, .lays X Bundle.tN "suppressedExceptions" Bundle.listD, .lays X Bundle.tN "detailMessage" "Ljava/lang/String;",
   .isRef (.static Bundle.tN "UNASSIGNED_STACK" Bundle.steD), .isRef (.static Bundle.tN "SUPPRESSED_SENTINEL" Bundle.listD),
   .fieldLink Bundle.tN 198 Bundle.tN "backtrace" "Ljava/lang/Object;", .lays Bundle.tN Bundle.tN "backtrace" "Ljava/lang/Object;", .lays X Bundle.tN "backtrace" "Ljava/lang/Object;"]
section CTOR
variable {p : Program} {l : Launch} {e : Env} {R : Room} {s : State} {m₀ : MethodId} {args : Array Value} {below : List Frame} {meth : Method} {c : Code} {W : State} {locs : List Loc} {cells slots : Nat}
set_option maxHeartbeats 1000000 in
theorem ex_ctor (X : Stand p l e R s m₀ args below meth c W locs cells slots) (hexec : p.tables.exec = Jvm.exec) (htr : e.platform.stackTraces = false) {own cls : String} {ic ix : Nat} {rx : ByteArray}
    (x0 : decode rx 0 = .ok (.aload_n 0, 1)) (x1 : decode rx 1 = .ok (.aload_n 1, 1)) (x2 : decode rx 2 = .ok (.invokespecial ix, 3)) (x5 : decode rx 5 = .ok (.return_, 1))
    (hown : s.vm.findClass own = some m₀.cls) (hcls : Bundle.fit cls = true)
    (h : ∀ a ∈ ex_at own ic cls ix rx, a.before args s = true)
    (hlocs : ∀ x ∈ locs, ∀ cell, s.heap[x.base]? = some cell → cell.vm.isStatics = false)
    {a : Addr} {cX : ClassId} {kX : Class} (hfoundX : s.vm.findClass cls = some cX) (hkX : s.vm.classes[cX]? = some kX) (hcell : W.heap[a]? = some (freshCell cX kX)) (hnew : s.heap.size ≤ a)
    {msg : Value} (hmsg : msg.isRef = true)
    {g : JFrame} (hg : g.method = m₀) (hsize : g.locals.size = c.maxLocals) (hlocked : g.locked = none) (hentered : g.entered = []) {rest : List Value} (hstack : g.stack = msg :: .ref a :: .ref a :: rest)
    (hd6 : decode c.code g.pc = .ok (.invokespecial ic, 3)) (hd9 : decode c.code (g.pc + 3) = .ok (.athrow, 1)) (hout : ∀ x ∈ c.exceptionTable.toList, covers x (g.pc + 3) = false)
    (hRframes : 5 < R.frames) (hRlocals : 2 * g.monitorRoom + ((Value.ref a :: rest).map fun v => v.category).sum + 81 ≤ R.locals) (hlocks : meth.locks = false) :
    ∃ U : State, Steps p.tables e below (W.setTop g) U ∧ U.status = .running ∧ Ended U below (.threw a) ∧ s.WarmedH U.vm ∧ s.sameButNew ({ U with vm := s.vm } : State) locs cells slots ∧
      ∃ ce, U.heap[a]? = some ce ∧ ce.cls = cX ∧ ce.vm = .none := by
  have howns : e.platform.frameOwnsMonitors = true := by rw [X.admits.platform]
  have hfin : e.platform.finalization = false := by rw [X.admits.platform]
  have hpl : e.platform.magicAccessors = ({} : Platform).magicAccessors := by rw [X.admits.platform]
  have hin : ∀ x, x ∈ ex_at own ic cls ix rx → x.holds args s none s [] = true := fun x hx => h x hx
  obtain ⟨T, Z0, L, -, Y⟩ := ThrowableC.of_atoms (args := args) howns hfin hpl (fun x hx => h x (by simp [ex_at, hx]))
  obtain ⟨Z, M, LZ, LM, hnZ⟩ := Init0T.ofS_atoms (args := args) hpl L Y (fun x hx => h x (by simp [ex_at, hx]))
  obtain ⟨P2, Ps, hlen, L2, hL, hP2m, hlink2, hlink⟩ := Bundle.chainS (args := args) hpl hnZ ex_ns ex_ru (by decide +kernel) (by decide +kernel) (fun x hx => h x (by simp [ex_at, hx]))
  obtain ⟨P1, L1, hP1m, hP1s⟩ := PassC.ofS_atoms (args := args) (s := s) hpl (X := cls) (Y := ex_ru) (Bundle.fit_spec hcls).1 (by decide +kernel) x0 x1 x2 x5 (fun x hx => h x (by simp [ex_at, hx]))
  have hlink1 : P1.sup = P2.m := Option.some.inj (hP1s.symm.trans hP2m)
  have hfound : s.vm.findClass cls = some P1.m.cls := findClass_of_methodNamed hP1m
  cases Option.some.inj (hfoundX.symm.trans hfound)
  obtain ⟨c1, kX', hc1, hk, hord, -, -, hn6⟩ := Cond.instantiable_spec (hin (.instantiable cls 6) (by simp [ex_at]))
  cases Option.some.inj (hc1.symm.trans hfound)
  cases Option.some.inj (hkX.symm.trans hk)
  have hsel0 : selectMethod e.platform s.vm P1.m.cls T.fill0 = .method T.fill0 := by
    obtain ⟨c2, r2, m2, q1, q2, q3, q4, -⟩ := Cond.selects_spec (hin (.selects cls Bundle.tFill0 Bundle.tFill0) (by simp [ex_at]))
    cases Option.some.inj (q1.symm.trans hfound)
    cases Option.some.inj (q2.symm.trans (State.methodFound?_of_named Y.fill0 (by decide)))
    cases Option.some.inj (q3.symm.trans Y.fill0)
    rw [Launch.admits_selectMethod X.admits]; exact q4
  have hselF : selectMethod e.platform s.vm P1.m.cls T.fill = .method T.fill := by
    obtain ⟨c2, r2, m2, q1, q2, q3, q4, -⟩ := Cond.selects_spec (hin (.selects cls Bundle.tFill Bundle.tFill) (by simp [ex_at]))
    cases Option.some.inj (q1.symm.trans hfound)
    cases Option.some.inj (q2.symm.trans (State.methodFound?_of_named Y.fill (by decide)))
    cases Option.some.inj (q3.symm.trans Y.fill)
    rw [Launch.admits_selectMethod X.admits]; exact q4
  obtain ⟨cellS0, hcS0, hiss⟩ := Y.statics
  obtain ⟨u0, hu0⟩ := Cond.staticRefV Y.unassigned L.unassignedStatic L.statics hcS0 hiss (hin (.isRef (.static Bundle.tN "UNASSIGNED_STACK" Bundle.steD)) (by simp [ex_at]))
  obtain ⟨sen, hsen⟩ := Cond.staticRefV Y.sentinel L.sentinelStatic L.statics hcS0 hiss (hin (.isRef (.static Bundle.tN "SUPPRESSED_SENTINEL" Bundle.listD)) (by simp [ex_at]))
  obtain ⟨ci198, i198, fB, hk198, hg198, ha198, hsB, -, hnB, htB, hffB⟩ := Cond.ownField (t := .object "java/lang/Object") Y.found L.cls (by decide +kernel) (hin (.fieldLink Bundle.tN 198 Bundle.tN "backtrace" "Ljava/lang/Object;") (by simp [ex_at])) (hin (.lays Bundle.tN Bundle.tN "backtrace" "Ljava/lang/Object;") (by simp [ex_at])) e.platform hpl
  obtain ⟨cellS, hcS', heS, -, hkeep⟩ := X.same.2.2.2.2.2 T.aS cellS0 hcS0
  have hcellS : W.heap[T.aS]? = some cellS := hcS'
  have hnot : ∀ i, (⟨T.aS, i⟩ : Loc) ∉ locs := fun i hmem => by
    have := hlocs _ hmem cellS0 hcS0
    rw [hiss] at this; cases this
  have hknownS : cellS.vm ≠ .unknown := by
    rw [heS]; intro hu
    rw [show cellS0.vm = .unknown from hu] at hiss
    cases hiss
  have hneS : T.aS ≠ a := Nat.ne_of_lt (Nat.lt_of_lt_of_le (Array.getElem?_eq_some_iff.mp hcS0).1 hnew)
  obtain ⟨iM, hffM⟩ := Y.msg
  obtain ⟨tyC, dC, hdC, hdnC⟩ := Cond.laysAt hfound hk Y.cause (hin (.lays cls Bundle.tN "cause" "Ljava/lang/Throwable;") (by simp [ex_at]))
  obtain ⟨tyS, dS, hdS, hdnS⟩ := Cond.laysAt hfound hk Y.stack (hin (.lays cls Bundle.tN "stackTrace" Bundle.steD) (by simp [ex_at]))
  obtain ⟨tyP, dP, hdP, hdnP⟩ := Cond.laysAt hfound hk Y.supp (hin (.lays cls Bundle.tN "suppressedExceptions" Bundle.listD) (by simp [ex_at]))
  obtain ⟨tyM, dM, hdM, hdnM⟩ := Cond.laysAt hfound hk hffM (hin (.lays cls Bundle.tN "detailMessage" "Ljava/lang/String;") (by simp [ex_at]))
  obtain ⟨tyB, dB, hdB, hdnB⟩ := Cond.laysAt hfound hk hffB (hin (.lays cls Bundle.tN "backtrace" "Ljava/lang/Object;") (by simp [ex_at]))
  have bC := Cond.laysApart hdB hdC hdnB hdnC (by rw [hnB, Y.causeName]; decide)
  have bS := Cond.laysApart hdB hdS hdnB hdnS (by rw [hnB, Y.stackName]; decide)
  have bP := Cond.laysApart hdB hdP hdnB hdnP (by rw [hnB, Y.suppName]; decide)
  have hskip : SkipFacts T e.platform s (fun u => u) u0 ((preparedCellV T.toThrowableT (freshCell P1.m.cls kX) a u0 sen).withEntry W.cur) :=
    ⟨{ ci198 := ci198, i198 := i198, fBack := fB }, ⟨hk198, hg198, ha198, hsB⟩, by
      have := fresh_default (c := P1.m.cls) tyB
      rw [htB] at this
      simpa [preparedCellV, Cell.setSlot, Cell.withEntry, Array.getElem?_setIfInBounds, bC, bS, bP, bC.symm, bS.symm, bP.symm, defaultValue] using this, fun _ _ => rfl⟩
  obtain ⟨tm, methC, cdC, kC, vm₁, hnC, -, -, -, -, -, -, -, hW₁, st1⟩ := Steps.initColdS (tb := p.tables) (e := e) (below := below) (s := s) (U := W) X.here hexec X.warmed hpl hown (t := Bundle.initS cls) rfl rfl (Bundle.fit_spec hcls).2
    (hin (.methodLink own ic (Bundle.initS cls)) (by simp [ex_at])) (h (.instanceMethod (Bundle.initS cls)) (by simp [ex_at, Bundle.passSAtoms])) (bytes := rx) (maxL := 2) (h (.code (Bundle.initS cls) rx 2 none) (by simp [ex_at, Bundle.passSAtoms]))
    (f := g) hg (a := a) (msg := msg) (rest := .ref a :: rest) hstack hd6
  cases Option.some.inj (hnC.symm.trans hP1m)
  have X₁ := X.noted hW₁
  have hlen2 : (P1 :: P2 :: Ps).length = 3 := by rw [List.length_cons, List.length_cons, hlen]; rfl
  obtain ⟨vm₂, X₂, st2⟩ := X₁.ctorMessageOffV hexec (g := { g with stack := .ref a :: rest }) hg hsize T L Z LZ M LM (P1 :: P2 :: Ps)
    (fun P hP => by
      rcases List.mem_cons.mp hP with rfl | hP
      · exact L1
      · rcases List.mem_cons.mp hP with rfl | hP
        · exact L2
        · exact hL P hP) ⟨hlink1, hlink2, hlink⟩ (u0 := u0) (sen := sen) (self := a) hmsg (cell := freshCell P1.m.cls kX) (cellS := cellS)
    hcell (fun _ => by simp) (by simp) rfl rfl hsel0 hselF hcellS hneS hknownS (by rw [hkeep _ (hnot _)]; exact hu0) (by rw [hkeep _ (hnot _)]; exact hsen)
    (Takes.of_laid hk hord tyC (by rw [Y.causeType]; rfl)) (Takes.of_laid hk hord tyS (by rw [Y.stackType]; exact fits_refV_array _ u0)) (Takes.of_laid hk hord tyP (by rw [Y.suppType]; exact fits_refV_object _ sen))
    (Takes.of_laid hk hord tyM (by rw [Y.msgType]; exact fits_refV_object _ ⟨msg, hmsg⟩)) Y.objLocals hskip htr [] hd6
    (by rw [hlen2]; omega) (by rw [hlen2]; exact hRlocals)
  obtain ⟨hwalk, hrun, hended, hWU, hsame⟩ := X₂.athrowLeaves hexec (g := { g with stack := .ref a :: rest, pc := g.pc + 3 }) hg hlocked hentered hout (a := a) (rest := rest) rfl hd9
  have hlt : a < ((W.setVm vm₁).setVm vm₂).heap.size := (Array.getElem?_eq_some_iff.mp hcell).1
  have hU := heapAt_setCell_self (s := (W.setVm vm₁).setVm vm₂) (plainBareV T.toThrowableT (freshCell P1.m.cls kX) a u0 sen msg) hlt
  refine ⟨_, st1 _ (fun acts => ?_), hrun, hended, hWU, hsame.weaken (fun y hy hlt' => ?_) (Nat.le_refl _) (Nat.le_refl _), _, hU, rfl, rfl⟩
  · rw [doInvoke_state]
    exact st2 _ hwalk
  · rcases List.mem_append.mp hy with h1 | h1
    · exact h1
    · exfalso
      have hb : y.base = a := by
        simp only [List.mem_cons, List.not_mem_nil, or_false] at h1
        rcases h1 with rfl | rfl | rfl | rfl | rfl <;> rfl
      rw [hb] at hlt'
      exact Nat.not_lt.mpr hnew hlt'
end CTOR
/-- declared: out of what else is said of it -/
theorem ex_decl {args : Array Value} {s : State} {y : MethodName} {b : ByteArray} {n : Nat} {rt : Option FieldType} (h1 : (Cond.instanceMethod y).before args s = true) (h2 : (Cond.code y b n rt).before args s = true) : (Cond.declares y).before args s = true := by
  obtain ⟨m, meth, hn, hm, hst, -⟩ := Cond.instanceMethod_spec h1
  obtain ⟨meth', c, hm', -, -, -, -, -, -, hsig⟩ := Cond.code_spec hn h2
  cases Option.some.inj (hm.symm.trans hm')
  simp [Cond.before, Cond.holds, Cond.value, hn, hm, hst, hsig]
section THROW
variable {p : Program} {l : Launch} {e : Env} {R : Room} {s : State} {m : MethodId} {args : Array Value} {below : List Frame} {meth : Method} {c : Code} {H : Heap} {locs : List Loc} {cells slots : Nat}
variable {free : Addr → Prop} {ls : Array Slot} {rest : List Value} {Qc : Array Value → State → Outcome → State → Prop} {XC : String → State → State → Prop}
set_option maxHeartbeats 1000000 in
/-- 'throw new E("text")' -/
theorem ex_throw {cc : ByteArray} {pc n5 : Nat} (hexec : p.tables.exec = Jvm.exec) (hb : c.code = cc) (hl : l.stackTraces = false) {own cls text : String} {ik is ic mc ms sa ix : Nat} {rx : ByteArray} {A : Nat → Prop}
    (x0 : decode rx 0 = .ok (.aload_n 0, 1)) (x1 : decode rx 1 = .ok (.aload_n 1, 1)) (x2 : decode rx 2 = .ok (.invokespecial ix, 3)) (x5 : decode rx 5 = .ok (.return_, 1))
    (hown : s.vm.findClass own = some m.cls) (hcls : Bundle.fit cls = true)
    (hk : (Cond.classLink own ik cls).before args s = true) (hini : (Cond.initialized cls).before args s = true) (hstr : vk_R own is text sa s) (hat : ∀ w ∈ (ex_at own ic cls ix rx).filter vx_no, w.before args s = true)
    (hgood : ∀ w ∈ Cond.classLink own ik cls :: Cond.initialized cls :: (ex_at own ic cls ix rx).filter vx_no, vx_ot w = true)
    (hU : vx_Zq Bundle.tN "UNASSIGNED_STACK" Bundle.steD A s s.heap) (hN : vx_Zq Bundle.tN "SUPPRESSED_SENTINEL" Bundle.listD A s s.heap) (hS : va_S A s.heap H locs) (hsize : ls.size = c.maxLocals)
    (d0 : decode cc pc = .ok (.new ik, 3)) (d3 : decode cc (pc + 3) = .ok (.dup, 1)) (d4 : (decode cc (pc + 4) = .ok (.ldc is, 2) ∧ n5 = pc + 6) ∨ (decode cc (pc + 4) = .ok (.ldc_w is, 3) ∧ n5 = pc + 7)) (d6 : decode cc n5 = .ok (.invokespecial ic, 3)) (d9 : decode cc (n5 + 3) = .ok (.athrow, 1))
    (hout : ∀ x ∈ c.exceptionTable.toList, covers x (n5 + 3) = false)
    (hRframes : 5 < R.frames) (hRlocals : (rest.map fun v => v.category).sum + 82 ≤ R.locals) (hRcells : cells + 1 ≤ R.cells) (hRslots : slots + 6 ≤ R.slots) (hlocks : meth.locks = false)
    (hx : ∀ t : State, s.vm.Alike t.vm → H.size ≤ t.heap.size → (∀ q : Nat, q < H.size → t.heap[q]? = H[q]?) → XC cls s t)
    (hf : ∀ z ∈ locs, free z.base) (hc : cells + 1 ≤ mc) (hs : slots + 6 ≤ ms) :
    W p l e R s m args below meth c H locs cells slots (vx_MQ below Qc XC args s mc ms free) (F0 m pc ls rest) := by
  intro T hT X
  have htr : e.platform.stackTraces = false := (show e.platform.stackTraces = l.stackTraces by rw [X.admits.platform]).trans hl
  have Y := vx_rebase X (R' := { frames := R.frames, locals := R.locals, cells := 1, slots := 6 }) (Nat.le_refl _) (Nat.le_refl _) hRcells hRslots
  obtain ⟨s', hA⟩ : ∃ z, z = (T.setVm s.vm).setFrames (.invoking m args :: below) := ⟨_, rfl⟩
  rw [← hA] at Y
  have hvm : s'.vm = s.vm := by rw [hA]; rfl
  have hhp : s'.heap = H := by rw [hA]; exact hT
  have hW0 : s.WarmedH s'.vm := by rw [hvm]; exact State.WarmedH.refl s
  have hat' : ∀ w ∈ (ex_at own ic cls ix rx).filter vx_no, w.before args s' = true := fun w hw => vx_ot_at hW0 hvm.symm (hgood w (List.mem_cons_of_mem _ (List.mem_cons_of_mem _ hw))) (hat w hw)
  have hk' : (Cond.classLink own ik cls).before args s' = true := vx_ot_at hW0 hvm.symm (hgood _ List.mem_cons_self) hk
  have hini' : (Cond.initialized cls).before args s' = true := vx_ot_at hW0 hvm.symm (hgood _ (List.mem_cons_of_mem _ List.mem_cons_self)) hini
  have hU' : vx_Zq Bundle.tN "UNASSIGNED_STACK" Bundle.steD A s' s'.heap := by rw [hhp]; exact vx_Zq.moved hW0.alike (hU.kept hS.2.1)
  have hN' : vx_Zq Bundle.tN "SUPPRESSED_SENTINEL" Bundle.listD A s' s'.heap := by rw [hhp]; exact vx_Zq.moved hW0.alike (hN.kept hS.2.1)
  have h : ∀ w ∈ ex_at own ic cls ix rx, w.before args s' = true := vx_own hat' (vx_isRefq hU'.1) (vx_isRefq hN'.1) hU'.2.word hN'.2.word
  have hown' : s'.vm.findClass own = some m.cls := by rw [hvm]; exact hown
  have hins : (Cond.instantiable cls 6).before args s' = true := h _ (by simp [ex_at])
  obtain ⟨vm₁, cX, kX, hfX, hkX, -, -, X₁, st1⟩ := Y.newCold hexec (own := own) (C := cls) (index := ik) (n := 6) hown' hk' hins hini'
    (g := F0 m pc ls rest) rfl (by rw [hb]; exact d0) (Nat.le_refl _) (Nat.le_refl _)
  generalize hT1 : (T.setVm vm₁).pushCell { cls := cX, slots := kX.instanceTypes.map defaultValue, vm := .none } = T1 at X₁ st1
  have hcat : (Value.ref T.heap.size).category = 1 := rfl
  have hcellA : T1.heap[T.heap.size]? = some (freshCell cX kX) := by rw [← hT1]; exact State.heap_pushCell_size _ _
  have d3' : decode c.code (pc + 3) = .ok (.dup, 1) := by rw [hb]; exact d3
  have hstr' : vk_R own is text sa s' := vk_R.warm hW0 hstr
  obtain ⟨U, hsteps, hrun, hend, hW, hsame, ce, hce, hcc, hcv⟩ := ex_ctor X₁ hexec htr (own := own) (cls := cls) (ic := ic) x0 x1 x2 x5 hown' hcls h (fun x hx => nomatch hx) hfX hkX hcellA (by rw [hhp, hT]; exact Nat.le_refl _) (msg := .ref sa) rfl
    (g := { method := m, pc := n5, locals := ls, stack := .ref sa :: .ref T.heap.size :: .ref T.heap.size :: rest, locked := none }) rfl hsize rfl rfl (rest := rest) rfl
    (by rw [hb]; exact d6) (by rw [hb]; exact d9) hout hRframes (by
      have e9 : ({ method := m, pc := n5, locals := ls, stack := .ref sa :: .ref T.heap.size :: .ref T.heap.size :: rest, locked := none } : JFrame).monitorRoom = 0 := rfl
      simp only [List.map_cons, List.sum_cons, hcat]
      show 2 * 0 + _ + 81 ≤ R.locals
      omega) hlocks
  obtain ⟨f1, f2⟩ := vx_frame hsame
  rw [hhp] at f1 f2
  have hWs : s.WarmedH U.vm := State.WarmedH.trans hW0 hW
  have hcl : s.vm.findClass cls = some ce.cls := by
    rw [hvm] at hfX
    rw [hfX, hcc]
  have hall : s.sameButNew ({ U with vm := s.vm } : State) locs mc ms := by
    subst hA
    obtain ⟨e1, e2⟩ := hsame
    rw [State.setFrames_setFrames] at e1
    have h2 : (T.setVm s.vm).sameButNew ({ U with vm := s.vm } : State) [] (0 + 1) (0 + 6) := ⟨e1, e2⟩
    have h3 := X.same.trans h2
    rw [List.append_nil] at h3
    exact h3.mono hc hs
  refine ⟨U, ?_, .threw T.heap.size, hrun, hend, Or.inr ⟨T.heap.size, rfl, cls, ce, locs, hx U hWs.alike f1 (fun q hq => f2 q hq (fun z hz => nomatch hz)), hce, hcv, hcl, hWs, hall, hf⟩⟩
  refine st1 _ ?_
  show Steps p.tables e below (T1.setTop { method := m, pc := pc + 3, locals := ls, stack := .ref T.heap.size :: rest, locked := none }) _
  jvm_step X₁.here [X₁.here.top, hexec, d3', Value.category]
  rcases d4 with ⟨d4, rfl⟩ | ⟨d4, rfl⟩
  · have d4' : decode c.code (pc + 4) = .ok (.ldc is, 2) := by rw [hb]; exact d4
    exact X₁.ldcString hexec (own := own) (text := text) (index := is) (a := sa) hown' hstr'.1 hstr'.2
      (g := { method := m, pc := pc + 4, locals := ls, stack := .ref T.heap.size :: .ref T.heap.size :: rest, locked := none }) rfl d4' _ hsteps
  · have d4' : decode c.code (pc + 4) = .ok (.ldc_w is, 3) := by rw [hb]; exact d4
    exact X₁.ldcStringW hexec (own := own) (text := text) (index := is) (a := sa) hown' hstr'.1 hstr'.2
      (g := { method := m, pc := pc + 4, locals := ls, stack := .ref T.heap.size :: .ref T.heap.size :: rest, locked := none }) rfl d4' _ hsteps
end THROW
/-- all that the tables say of throwing E in ForgetWar -/
def ex_ok (E : String) (ik ic : Nat) : Prop := ∃ (ix : Nat) (rx : ByteArray), (decode rx 0 = .ok (.aload_n 0, 1) ∧ decode rx 1 = .ok (.aload_n 1, 1) ∧ decode rx 2 = .ok (.invokespecial ix, 3) ∧ decode rx 5 = .ok (.return_, 1)) ∧ Bundle.fit E = true ∧
  (Cond.classLink "ForgetWar" ik E ∈ am_GW ∧ Cond.initialized E ∈ am_GW) ∧ (∀ w ∈ ((ex_at "ForgetWar" ic E ix rx).filter vx_no).filter goodWord, w ∈ am_GW) ∧ ((ex_at "ForgetWar" ic E ix rx).filter vx_no).filter (fun w => !goodWord w) = [.declares (Bundle.initS ex_ru), .declares (Bundle.initS "java/lang/Exception"), .declares (Bundle.initS Bundle.tN)]
theorem ex_in {ws : List Cond} (ps : List Nat) (hp : ws = ps.filterMap (fun i => lw_tbl[i]?)) (h : ws.all goodWord = true) : ∀ w ∈ ws, w ∈ am_GW := by
  intro w hw
  have hg := List.all_eq_true.mp h w hw
  rw [hp] at hw
  obtain ⟨i, -, hi⟩ := List.mem_filterMap.mp hw
  exact List.mem_filter.mpr ⟨List.mem_of_getElem? hi, hg⟩
set_option maxRecDepth 20000 in
theorem ex_ok_IA : ex_ok "java/lang/IllegalArgumentException" 122 126 := ⟨7, prog_19_method_2_code, ⟨by decide +kernel, by decide +kernel, by decide +kernel, by decide +kernel⟩, by decide +kernel, ⟨am_mem 958 (by decide +kernel) rfl, am_mem 162 (by decide +kernel) rfl⟩, ex_in [159, 980, 989, 995, 998, 1000, 981, 982, 174, 175, 983, 988, 996, 1016, 970, 1017, 972, 1018, 974, 984, 986, 976, 1012, 1013, 1015, 976, 1003, 1004, 1005, 1006, 1006, 1007, 1008, 1009, 1009, 1010, 1011, 1012, 1002, 959, 967, 968, 969, 971, 973, 975, 979, 978, 977] (by decide +kernel) (by decide +kernel), by decide +kernel⟩

set_option maxRecDepth 20000 in
theorem ex_ok_UO : ex_ok "java/lang/UnsupportedOperationException" 132 136 := ⟨7, prog_30_method_2_code, ⟨by decide +kernel, by decide +kernel, by decide +kernel, by decide +kernel⟩, by decide +kernel, ⟨am_mem 1028 (by decide +kernel) rfl, am_mem 163 (by decide +kernel) rfl⟩, ex_in [159, 980, 989, 995, 998, 1000, 981, 982, 174, 175, 983, 988, 996, 1016, 970, 1017, 972, 1018, 974, 984, 986, 976, 1012, 1013, 1015, 976, 1039, 1040, 1041, 1006, 1006, 1007, 1008, 1009, 1009, 1010, 1011, 1012, 1038, 1029, 1031, 993, 1032, 1033, 1034, 1035, 979, 978, 1036] (by decide +kernel) (by decide +kernel), by decide +kernel⟩

set_option maxRecDepth 20000 in
theorem ex_ok_IB : ex_ok "java/lang/IndexOutOfBoundsException" 247 251 := ⟨7, prog_21_method_2_code, ⟨by decide +kernel, by decide +kernel, by decide +kernel, by decide +kernel⟩, by decide +kernel, ⟨am_mem 1140 (by decide +kernel) rfl, am_mem 164 (by decide +kernel) rfl⟩, ex_in [159, 980, 989, 995, 998, 1000, 981, 982, 174, 175, 983, 988, 996, 1016, 970, 1017, 972, 1018, 974, 984, 986, 976, 1012, 1013, 1015, 976, 1151, 1152, 1153, 1006, 1006, 1007, 1008, 1009, 1009, 1010, 1011, 1012, 1150, 1141, 1143, 992, 1144, 1145, 1146, 1147, 979, 978, 1148] (by decide +kernel) (by decide +kernel), by decide +kernel⟩

set_option maxRecDepth 20000 in
theorem ex_ok_NS : ex_ok "java/util/NoSuchElementException" 189 193 := ⟨13, prog_33_method_4_code, ⟨by decide +kernel, by decide +kernel, by decide +kernel, by decide +kernel⟩, by decide +kernel, ⟨am_mem 1166 (by decide +kernel) rfl, am_mem 165 (by decide +kernel) rfl⟩, ex_in [159, 980, 989, 995, 998, 1000, 981, 982, 174, 175, 983, 988, 996, 1016, 970, 1017, 972, 1018, 974, 984, 986, 976, 1012, 1013, 1015, 976, 1177, 1178, 1179, 1006, 1006, 1007, 1008, 1009, 1009, 1010, 1011, 1012, 1176, 1167, 1169, 994, 1170, 1171, 1172, 1173, 979, 978, 1174] (by decide +kernel) (by decide +kernel), by decide +kernel⟩

set_option maxRecDepth 20000 in
theorem ex_ok_IS : ex_ok "java/lang/IllegalStateException" 292 296 := ⟨7, prog_20_method_2_code, ⟨by decide +kernel, by decide +kernel, by decide +kernel, by decide +kernel⟩, by decide +kernel, ⟨am_mem 1398 (by decide +kernel) rfl, am_mem 167 (by decide +kernel) rfl⟩, ex_in [159, 980, 989, 995, 998, 1000, 981, 982, 174, 175, 983, 988, 996, 1016, 970, 1017, 972, 1018, 974, 984, 986, 976, 1012, 1013, 1015, 976, 1409, 1410, 1411, 1006, 1006, 1007, 1008, 1009, 1009, 1010, 1011, 1012, 1408, 1399, 1401, 991, 1402, 1403, 1404, 1405, 979, 978, 1406] (by decide +kernel) (by decide +kernel), by decide +kernel⟩

/-- the words of a throw hold where the tables' words do -/
theorem ex_hat {args : Array Value} {s : State} {E : String} {ic ix : Nat} {rx : ByteArray} (hg : ∀ w ∈ am_GW, w.before args s = true) (h1 : ∀ w ∈ ((ex_at "ForgetWar" ic E ix rx).filter vx_no).filter goodWord, w ∈ am_GW)
    (h2 : ((ex_at "ForgetWar" ic E ix rx).filter vx_no).filter (fun w => !goodWord w) = [.declares (Bundle.initS ex_ru), .declares (Bundle.initS "java/lang/Exception"), .declares (Bundle.initS Bundle.tN)]) : (∀ w ∈ (ex_at "ForgetWar" ic E ix rx).filter vx_no, w.before args s = true) ∧ ∀ w ∈ (ex_at "ForgetWar" ic E ix rx).filter vx_no, vx_ot w = true := by
  have g : ∀ w ∈ Bundle.throwableAtoms ++ Bundle.throwableSAtoms ++ Bundle.passSAtoms E ex_ru ix rx ++ Bundle.chainSAtoms ex_ru ex_ns, vx_no w = true → goodWord w = true → w.before args s = true := fun w hw hn hgw =>
    hg w (h1 w (List.mem_filter.mpr ⟨List.mem_filter.mpr ⟨by unfold ex_at; exact List.mem_append_left _ hw, hn⟩, hgw⟩))
  refine ⟨vx_hat (B := [.declares (Bundle.initS ex_ru), .declares (Bundle.initS "java/lang/Exception"), .declares (Bundle.initS Bundle.tN)]) (fun w hw => hg w (h1 w hw)) (fun w hw => by rw [h2] at hw; exact hw) ?_, fun w hw => ?_⟩
  · refine vx_c (ex_decl (b := Bundle.six) (n := 2) (rt := none) (g _ ?_ rfl rfl) (g _ ?_ rfl rfl)) (vx_c (ex_decl (b := Bundle.six) (n := 2) (rt := none) (g _ ?_ rfl rfl) (g _ ?_ rfl rfl)) (vx_c (ex_decl (b := LibCode.Throwable.InitS.code) (n := 2) (rt := none) (g _ ?_ rfl rfl) (g _ ?_ rfl rfl)) vx_n))
    all_goals simp [Bundle.throwableSAtoms, Bundle.passSAtoms, Bundle.chainSAtoms, ex_ns]
  · cases hgw : goodWord w with
    | true => simp [vx_ot, hgw]
    | false =>
      have : w ∈ ((ex_at "ForgetWar" ic E ix rx).filter vx_no).filter (fun w => !goodWord w) := List.mem_filter.mpr ⟨hw, by rw [hgw]; rfl⟩
      rw [h2] at this
      simp only [List.mem_cons, List.not_mem_nil, or_false] at this
      rcases this with rfl | rfl | rfl <;> rfl
/-! contracts -/
def am_XPost (dC : Nat → ClassId) (dI : Nat → Nat → Nat) (dA : Nat → ClassId) (V : am_V) (sz : Nat) (QX : String → am_R → am_H → Prop) : String → State → State → Prop := fun E st t =>
  ∃ (r' : am_R) (h' : am_H), QX E r' h' ∧ va_P (dC, dI) vwCl (am_ws dA V r' h') t.heap ∧ va_F (am_A V sz) st t
/-- THE CONTRACT of a method that returns over r', h' with Q, or throws E over r', h' with QX -/
def am_XM (Y : am_M) (d mc ms : Nat) (as : List Value) (V : am_V) (r : am_R) (h : am_H) (Q : Option Value → am_R → am_H → Prop) (QX : String → am_R → am_H → Prop) : Prop :=
  ∀ (l : Launch), l.stackTraces = false → ∀ (dC : Nat → ClassId) (dI : Nat → Nat → Nat) (dA : Nat → ClassId) (adK : Nat → Nat) (sz : Nat),
    vx_Met l Y.1 (am_wl Y) (am_rm d mc ms) (va_Pc (as.map (am_cv V.1)) (am_Pre dC dI dA adK V sz r h)) (am_Post dC dI dA V sz Q) (am_XPost dC dI dA V sz QX) mc ms (am_A V sz)
/-- E is thrown over the frame at pc -/
def am_XG (X : am_X) (V : am_V) (cs : Nat × Nat) (pc : Nat) (ls : List (Nat × Value)) (E : String) (r : am_R) (h : am_H) : Prop := match X with
  | ((p, l, e, R), (s, m, args, below, meth, c), (A, Z), (dC, dI, dA), adK) =>
    ∀ (H : Heap) (locs : List Loc) (lsA : Array Slot) (rest : List Value) (q : Addr) (ce : Cell), am_w ((p, l, e, R), (s, m, args, below, meth, c), (A, Z), (dC, dI, dA), adK) V r h H locs → lv_has lsA c.maxLocals (ls.map (am_cvp V.1)) →
      H[q]? = some ce → ce.vm = .none → s.vm.findClass E = some ce.cls → vx_W p l e R s m args below meth c H locs cs.1 cs.2 Z (F0 m pc lsA rest) q
/-- a throw stands at pc -/
def ex_sq (M : am_M) (pc : Nat) (E : String) : Prop := M.1.cls = "ForgetWar" ∧ ∃ (ik is ic k n5 : Nat) (text : String), ex_ok E ik ic ∧ (("ForgetWar", is, text, k) ∈ am_SR ∧ k < am_TX.length) ∧ decode M.2.1 pc = .ok (.new ik, 3) ∧ decode M.2.1 (pc + 3) = .ok (.dup, 1) ∧
  ((decode M.2.1 (pc + 4) = .ok (.ldc is, 2) ∧ n5 = pc + 6) ∨ (decode M.2.1 (pc + 4) = .ok (.ldc_w is, 3) ∧ n5 = pc + 7)) ∧ decode M.2.1 n5 = .ok (.invokespecial ic, 3) ∧ decode M.2.1 (n5 + 3) = .ok (.athrow, 1)
/-- how the method may end by a throw -/
def am_TW (M : am_M) (X : am_X) (V : am_V) (mc ms : Nat) (QX : String → am_R → am_H → Prop) : Prop := ∀ (E : String) (r : am_R) (h : am_H), QX E r h → ∀ (cs : Nat × Nat) (pc : Nat) (ls : List (Nat × Value)), cs.1 ≤ mc → cs.2 ≤ ms →
  am_XG X V cs pc ls E r h ∧ (cs.1 + 1 ≤ mc → cs.2 + 6 ≤ ms → ex_sq M pc E → ∀ st : List Value, (st.map fun v => v.category).sum ≤ 8 → am_G X V cs pc ls st r h)
theorem am_XM.of {Y : am_M} {d mc ms : Nat} {as : List Value} {V : am_V} {r : am_R} {h : am_H} {Q : Option Value → am_R → am_H → Prop} {QX : String → am_R → am_H → Prop} (hn : plainName Y.1.cls = true) (hlen : (lg_sl as).length ≤ Y.2.2.1) (hd6 : 6 ≤ d)
    (body : ∀ X : am_X, am_C Y d mc ms X → am_T Y X V mc ms Q → am_TW Y X V mc ms QX → am_G X V (0, 0) 0 (lv_args 0 as) [] r h) : am_XM Y d mc ms as V r h Q QX := by
  intro l hl dC dI dA adK sz
  refine vx_ofW (cc := Y.2.1) (maxL := Y.2.2.1) (ret := Y.2.2.2) hn rfl ?_
  intro p e s m args below meth c s₁ B hml hnt hv
  obtain ⟨rfl, hsz, hP, hK, hD0, hE, hstr⟩ := hv
  have hD : am_Dj (am_A V sz) V := ⟨hD0.1, fun i hi => Or.inl ⟨i, hi, rfl⟩⟩
  have hA : ∀ q, s.heap.size ≤ q → am_A V sz q := fun q hq => Or.inr (by omega)
  have hS : va_S (am_A V sz) s.heap s.heap [] := va_S.rf
  have hloc := lv_entry (as.map (am_cv V.1)) (n := Y.2.2.1) (by rw [am_slots]; exact hlen)
  rw [lg_entry_eq]
  generalize (lg_sl (as.map (am_cv V.1)) ++ List.replicate (Y.2.2.1 - (lg_sl (as.map (am_cv V.1))).length) Slot.unset).toArray = ls at hloc ⊢
  rw [am_largs] at hloc
  have hts : ∀ w ∈ am_wl Y, w.before (as.map (am_cv V.1)).toArray s = true := atoms_spec (ws := am_wl Y) B.pre
  have good : ∀ w ∈ am_GW, w.before (as.map (am_cv V.1)).toArray s = true := fun w h => hts w (List.mem_cons_of_mem _ h)
  have K := body ((p, l, e, (headSpec (am_wl Y) (am_rm d mc ms)).room), (s, m, (as.map (am_cv V.1)).toArray, below, meth, c), (am_A V sz, vx_MQ below (am_Post dC dI dA V sz Q) (am_XPost dC dI dA V sz QX) (as.map (am_cv V.1)).toArray s mc ms (am_A V sz)), (dC, dI, dA), adK)
    ⟨⟨B.exec, B.bytes, hml, B.returns, B.notSynchronized, (name_of_methodNamed B.named B.method).1⟩, ⟨findClass_of_methodNamed B.named, hts, hl, hK⟩, ⟨hA, hE⟩, Nat.le_refl d, Nat.le_refl (64 * d), rfl, rfl⟩ ?_ ?_
  · exact K s.heap [] ls ⟨hP, hD, hS, hstr⟩ (by rw [hml]; exact hloc)
  · intro v r' h' hq cs pc H locs lsA hc1 hc2 hdec hw
    obtain ⟨hP1, hD1, hS1, -⟩ := hw
    have hst : ∀ t : State, t.heap = H → am_Post dC dI dA V sz Q (as.map (am_cv V.1)).toArray s (.returned (v.map (am_cv V.1))) t := fun t ht => ⟨⟨v, r', h', rfl, hq, by rw [ht]; exact hP1⟩, hS1.F ht⟩
    refine W.widen hc1 hc2 (vx_ret ?_)
    rcases hdec with ⟨x, ty, rfl, hd, hrt, hnar⟩ | ⟨rfl, hd, hrt⟩
    · exact W.zret B.exec B.bytes (B.returns.trans hrt) hnar (fun t ht _ => hst t ht) hS1.2.2 hd B.notSynchronized
    · exact W.vret B.exec B.bytes (B.returns.trans hrt) (fun t ht _ => hst t ht) hS1.2.2 hd B.notSynchronized
  · intro E r' h' hq cs pc ls2 hc1 hc2
    refine ⟨?_, fun h1 h2 hsq st h8 => ?_⟩
    · intro H locs lsA rest q ce hw _ hcell hcv hcl
      obtain ⟨hP1, hD1, hS1, -⟩ := hw
      exact vx_out (fun x hx => (hnt x hx).elim) B.notSynchronized hcell hcv hcl (fun t ht _ => ⟨r', h', hq, by rw [ht]; exact hP1, hS1.F ht⟩) hS1.2.2 hc1 hc2
    · obtain ⟨hown9, ik, is, ic, k, n5, text, ⟨ix, rx, ⟨x0, x1, x2, x5⟩, hfit, ⟨hk1, hk2⟩, hin, hdc⟩, ⟨hsr, hkl⟩, d0, d3, d4, d6, d9⟩ := hsq
      intro H locs lsA hw hl2
      obtain ⟨hP1, hD1, hS1, hstr1⟩ := hw
      obtain ⟨hh1, hh2⟩ := ex_hat (E := E) (ic := ic) (ix := ix) (rx := rx) good hin hdc
      have hownC : s.vm.findClass Y.1.cls = some m.cls := findClass_of_methodNamed B.named
      rw [hown9] at hownC
      have hcat : ((st.map (am_cv V.1)).map fun v => v.category).sum ≤ 8 := by rw [am_cats]; exact h8
      refine ex_throw (own := "ForgetWar") (cls := E) (text := text) (ik := ik) (is := is) (ic := ic) (sa := adK k) (A := am_A V sz) (n5 := n5) B.exec B.bytes hl x0 x1 x2 x5 hownC hfit (good _ hk1) (good _ hk2) (hE.2.1 _ hsr) hh1
        (fun w hw => ?_) hE.2.2.2.1.1 hE.2.2.2.1.2 hS1 hl2.1 d0 d3 d4 d6 d9 (fun x hx => (hnt x hx).elim) ?_ ?_ ?_ ?_ B.notSynchronized (fun t _ hz hkeep => ⟨r', h', hq, hP1.kept (fun k9 q9 hk9 => hkeep _ (vx_lt hP1 hk9)), Nat.le_trans hS1.1 hz, fun q h1 h2 => (hkeep q (Nat.lt_of_lt_of_le h1 hS1.1)).trans (hS1.2.1 q h1 h2)⟩) hS1.2.2 h1 h2
      · rcases List.mem_cons.mp hw with rfl | hw
        · rfl
        · rcases List.mem_cons.mp hw with rfl | hw
          · rfl
          · exact hh2 w hw
      · show 5 < d; omega
      · show _ + 82 ≤ 64 * d; omega
      · exact h1
      · exact h2
variable {M : am_M} {D MC MS : Nat} {X : am_X} {V : am_V} {cs : Nat × Nat} {pc : Nat} {ls : List (Nat × Value)} {st st0 : List Value} {r : am_R} {h : am_H}
/-- behind a call that may throw -/
theorem am_afterX {p : Program} {l : Launch} {e : Env} {R : Room} {s : State} {m : MethodId} {args : Array Value} {below : List Frame} {meth : Method} {c : Code} {A : Nat → Prop} {Z : State → Prop} {dC : Nat → ClassId} {dI : Nat → Nat → Nat} {dA : Nat → ClassId} {adK : Nat → Nat}
    {H : Heap} {locs : List Loc} {lsA : Array Slot} {sv rest : List Value} {a : Array Value} {mc ms : Nat} {Q : Option Value → am_R → am_H → Prop} {QX : String → am_R → am_H → Prop}
    (hw : am_w ((p, l, e, R), (s, m, args, below, meth, c), (A, Z), (dC, dI, dA), adK) V r h H locs) (hA : ∀ q, s.heap.size ≤ q → A q)
    (hr : vx_Run p l e R s m args below meth c H locs cs.1 cs.2 mc ms (F0 m pc lsA sv) rest (am_Post dC dI dA V H.size Q a) (am_XPost dC dI dA V H.size QX) (am_A V H.size))
    (kx : ∀ (E : String) (r' : am_R) (h' : am_H), QX E r' h' → ∀ (H1 : Heap) (locs1 : List Loc) (q : Addr) (ce : Cell), am_w ((p, l, e, R), (s, m, args, below, meth, c), (A, Z), (dC, dI, dA), adK) V r' h' H1 locs1 → H1[q]? = some ce → ce.vm = .none → s.vm.findClass E = some ce.cls → vx_W p l e R s m args below meth c H1 locs1 (cs.1 + mc) (cs.2 + ms) Z (F0 m pc lsA rest) q)
    (kk : ∀ (v : Option Value) (r' : am_R) (h' : am_H), Q v r' h' → ∀ (H1 : Heap) (locs1 : List Loc), am_w ((p, l, e, R), (s, m, args, below, meth, c), (A, Z), (dC, dI, dA), adK) V r' h' H1 locs1 → W p l e R s m args below meth c H1 locs1 (cs.1 + mc) (cs.2 + ms) Z (F0 m (pc + 3) lsA ((v.map (am_cv V.1)).toList ++ rest))) :
    W p l e R s m args below meth c H locs cs.1 cs.2 Z (F0 m pc lsA sv) := by
  obtain ⟨hP, hD, hS, hstr⟩ := hw
  have hin := am_inA hA hD hS
  intro T hT X
  rcases hr T hT X with ⟨v, st₀, t, T', L, h0, X', hL, e1, e2, ⟨⟨v', r', h', hv, hq, hP'⟩, hF⟩, stp⟩ | ⟨q, st₀, t, T', L, E, ce, h0, X', hL, e1, e2, ⟨r', h', hq, hP', hF⟩, hce, hcv, hcl, stp⟩
  · cases hv
    obtain ⟨-, -, hS'⟩ := vx_keep (H := H) (A0 := A) (A1 := am_A V H.size) h0 e1 hS (fun q _ hq => hin q hq) hin hL hF
    obtain ⟨t2, a1, b1⟩ := kk v' r' h' hq T'.heap (locs ++ L) ⟨by rw [e1]; exact hP', hD, hS', hstr⟩ T' rfl X'
    exact ⟨t2, stp t2 a1, b1⟩
  · obtain ⟨-, -, hS'⟩ := vx_keep (H := H) (A0 := A) (A1 := am_A V H.size) h0 e1 hS (fun q _ hq => hin q hq) hin hL hF
    obtain ⟨t2, a1, b1⟩ := kx E r' h' hq T'.heap (locs ++ L) q ce ⟨by rw [e1]; exact hP', hD, hS', hstr⟩ (by rw [e1]; exact hce) hcv hcl T' rfl X'
    exact ⟨t2, stp.trans a1, b1⟩
theorem am_callVX {Y : am_M} {n d mc ms ix b ci : Nat} {As : List Value} {Q : Option Value → am_R → am_H → Prop} {QX : String → am_R → am_H → Prop} (C : am_C M D MC MS X) (hd : decode M.2.1 pc = .ok (.invokevirtual ix, 3)) (hl : Cond.methodLink M.1.cls ix Y.1 ∈ am_GW) (hY : am_IV Y n) (hst : st0 = As.reverse ++ .ref b :: st) (hn : As.length = n)
    (hb : b < V.2.1) (hs : V.2.2 b = (0, ci)) (hci : ci < 13 ∧ (am_cl ci).1 = Y.1.cls) (hD : d + 1 ≤ D) (h1 : cs.1 + mc ≤ MC) (h2 : cs.2 + ms ≤ MS) (h8 : (st.map fun v => v.category).sum ≤ 8)
    (hct : am_XM Y d mc ms (.ref b :: As) V r h Q QX) (kx : ∀ (E : String) (r' : am_R) (h' : am_H), QX E r' h' → am_XG X V (cs.1 + mc, cs.2 + ms) pc ls E r' h') (k : ∀ (v : Option Value) (r' : am_R) (h' : am_H), Q v r' h' → am_G X V (cs.1 + mc, cs.2 + ms) (pc + 3) ls (v.toList ++ st) r' h') : am_G X V cs pc ls st0 r h := by
  obtain ⟨⟨p, l, e, R⟩, ⟨s, m, args, below, meth, c⟩, ⟨A, Z⟩, ⟨dC, dI, dA⟩, adK⟩ := X
  obtain ⟨⟨hx, hb9, hml, hrt, hlk, hnm⟩, ⟨hown, hts, htr, hK⟩, ⟨hA, hE⟩, hDf, hDl, hMC, hMS⟩ := C
  intro H locs lsA hw hloc
  obtain ⟨⟨sg1, sg2, sg3⟩, hcd, hin, hsel⟩ := hY
  subst hst
  have hG : GoodIn (am_wl M) (wsV M.1.cls ix Y.1.cls Y.1 (am_wl Y)) := am_gi (fun w hw => by
    rcases List.mem_append.mp hw with h | h
    · simp only [List.mem_cons, List.not_mem_nil, or_false] at h
      rcases h with rfl | rfl | rfl | rfl
      · exact hl
      · exact hin
      · exact hsel
      · exact hcd.2.1
    · exact am_wsy hcd w h)
  obtain ⟨htc, -, -, -⟩ := am_tball hci.1
  have he : (am_ws dA V r h)[b]? = some (V.1 b, .inr (ci, (List.range (am_cl ci).2.2).map (am_fv V.1 (am_cl ci).2.1 (r b) (h b)))) := by rw [am_ws_at hb, hs]; rfl
  have hrecv := va_recv hK hw.1 htc he
  rw [hci.2] at hrecv
  refine am_afterX hw hA (vx_runV (As := As.map (am_cv V.1)) (rest := st.map (am_cv V.1)) (b := V.1 b) (C := Y.1.cls) ⟨hx, hb9, hml, hown, hts⟩ (hct l htr dC dI dA adK H.size)
    (cwV n hts hG rfl rfl rfl ⟨rfl, sg1, sg2, sg3⟩ ⟨by show d + 1 ≤ R.frames; omega, by show 8 + (Y.2.2.1 + 11) + 64 * d ≤ R.locals; have := hcd.2.2; omega⟩) ⟨am_blind, hrecv, am_pre (as := .ref b :: As) hw hA hK hE⟩ rfl (by rw [List.length_map]; exact hn) (hloc.1.trans hml) ?_ (lv_room (by rw [am_cats]; exact h8)) hd ⟨by omega, by omega⟩) ?_ ?_
  · simp [am_cv]
  · intro E r' h' hq H1 locs1 q ce hw1 hce hcv hcl
    exact kx E r' h' hq H1 locs1 lsA _ q ce hw1 hloc hce hcv hcl
  · intro v r' h' hq H1 locs1 hw1
    rw [am_stk]
    exact k v r' h' hq H1 locs1 lsA hw1 hloc
theorem am_callSX {Y : am_M} {n d mc ms ix : Nat} {As : List Value} {Q : Option Value → am_R → am_H → Prop} {QX : String → am_R → am_H → Prop} (C : am_C M D MC MS X) (hd : decode M.2.1 pc = .ok (.invokestatic ix, 3)) (hl : Cond.methodLink M.1.cls ix Y.1 ∈ am_GW) (hY : am_IS Y n) (hst : st0 = As.reverse ++ st) (hn : As.length = n)
    (hD : d + 1 ≤ D) (h1 : cs.1 + mc ≤ MC) (h2 : cs.2 + ms ≤ MS) (h8 : (st.map fun v => v.category).sum ≤ 8)
    (hct : am_XM Y d mc ms As V r h Q QX) (kx : ∀ (E : String) (r' : am_R) (h' : am_H), QX E r' h' → am_XG X V (cs.1 + mc, cs.2 + ms) pc ls E r' h') (k : ∀ (v : Option Value) (r' : am_R) (h' : am_H), Q v r' h' → am_G X V (cs.1 + mc, cs.2 + ms) (pc + 3) ls (v.toList ++ st) r' h') : am_G X V cs pc ls st0 r h := by
  obtain ⟨⟨p, l, e, R⟩, ⟨s, m, args, below, meth, c⟩, ⟨A, Z⟩, ⟨dC, dI, dA⟩, adK⟩ := X
  obtain ⟨⟨hx, hb9, hml, hrt, hlk, hnm⟩, ⟨hown, hts, htr, hK⟩, ⟨hA, hE⟩, hDf, hDl, hMC, hMS⟩ := C
  intro H locs lsA hw hloc
  obtain ⟨⟨sg1, sg2, sg3⟩, hcd, hstat⟩ := hY
  subst hst
  have good : ∀ w ∈ am_GW, w.before args s = true := fun w h => hts w (List.mem_cons_of_mem _ h)
  refine am_afterX hw hA (vx_runS (As := As.map (am_cv V.1)) (rest := st.map (am_cv V.1)) ⟨hx, hb9, hml, hown, hts⟩ (hct l htr dC dI dA adK H.size)
    ⟨callB_of n hts (am_gi (am_wsy hcd)) rfl rfl rfl (good _ hcd.2.1) (good _ hl) ⟨sg1, sg2, sg3⟩ ⟨by show d + 1 ≤ R.frames; omega, by show 8 + (Y.2.2.1 + 11) + 64 * d ≤ R.locals; have := hcd.2.2; omega⟩, good _ hstat⟩ ⟨am_blind, am_pre (as := As) hw hA hK hE⟩ rfl (by rw [List.length_map]; exact hn) (hloc.1.trans hml) ?_ (lv_room (by rw [am_cats]; exact h8)) hd ⟨by omega, by omega⟩) ?_ ?_
  · simp
  · intro E r' h' hq H1 locs1 q ce hw1 hce hcv hcl
    exact kx E r' h' hq H1 locs1 lsA _ q ce hw1 hloc hce hcv hcl
  · intro v r' h' hq H1 locs1 hw1
    rw [am_stk]
    exact k v r' h' hq H1 locs1 lsA hw1 hloc
theorem am_callVXc {Y : am_M} {n d mc ms ix b ci : Nat} {cz : Nat × Nat} {As : List Value} {Q : Option Value → am_R → am_H → Prop} {QX : String → am_R → am_H → Prop} (C : am_C M D MC MS X) (hd : decode M.2.1 pc = .ok (.invokevirtual ix, 3)) (hl : Cond.methodLink M.1.cls ix Y.1 ∈ am_GW) (hY : am_IV Y n) (hst : st0 = As.reverse ++ .ref b :: st) (hn : As.length = n)
    (hb : b < V.2.1) (hs : V.2.2 b = (0, ci)) (hci : ci < 13 ∧ (am_cl ci).1 = Y.1.cls) (hD : d + 1 ≤ D) (h1 : cs.1 + mc ≤ MC) (h2 : cs.2 + ms ≤ MS) (h8 : (st.map fun v => v.category).sum ≤ 8)
    (hct : am_XM Y d mc ms (.ref b :: As) V r h Q QX) (hcz : cz = (cs.1 + mc, cs.2 + ms)) (kx : ∀ (E : String) (r' : am_R) (h' : am_H), QX E r' h' → am_XG X V cz pc ls E r' h') (k : ∀ (v : Option Value) (r' : am_R) (h' : am_H), Q v r' h' → am_G X V cz (pc + 3) ls (v.toList ++ st) r' h') : am_G X V cs pc ls st0 r h := by
  subst hcz
  exact am_callVX C hd hl hY hst hn hb hs hci hD h1 h2 h8 hct kx k
theorem am_callSXc {Y : am_M} {n d mc ms ix : Nat} {cz : Nat × Nat} {As : List Value} {Q : Option Value → am_R → am_H → Prop} {QX : String → am_R → am_H → Prop} (C : am_C M D MC MS X) (hd : decode M.2.1 pc = .ok (.invokestatic ix, 3)) (hl : Cond.methodLink M.1.cls ix Y.1 ∈ am_GW) (hY : am_IS Y n) (hst : st0 = As.reverse ++ st) (hn : As.length = n)
    (hD : d + 1 ≤ D) (h1 : cs.1 + mc ≤ MC) (h2 : cs.2 + ms ≤ MS) (h8 : (st.map fun v => v.category).sum ≤ 8)
    (hct : am_XM Y d mc ms As V r h Q QX) (hcz : cz = (cs.1 + mc, cs.2 + ms)) (kx : ∀ (E : String) (r' : am_R) (h' : am_H), QX E r' h' → am_XG X V cz pc ls E r' h') (k : ∀ (v : Option Value) (r' : am_R) (h' : am_H), Q v r' h' → am_G X V cz (pc + 3) ls (v.toList ++ st) r' h') : am_G X V cs pc ls st0 r h := by
  subst hcz
  exact am_callSX C hd hl hY hst hn hD h1 h2 h8 hct kx k
/-- returns a over P, if the code is 0 -/
abbrev ex_ret (c : Nat) (a : Int32) (P : am_R → am_H → Prop) : Option Value → am_R → am_H → Prop := fun v r h => c = 0 ∧ v = some (.int a) ∧ P r h
/-- throws the code's class over P -/
abbrev ex_thr (names : List String) (c : Nat) (P : am_R → am_H → Prop) : String → am_R → am_H → Prop := fun E r h => ∃ k, c = k + 1 ∧ names[k]? = some E ∧ P r h
theorem ex_okl {x : Int32} {n : Nat} (q : x < 0) : rf_okN x n = false := by
  rw [rf_okN, decide_eq_false (show ¬ nI 0 ≤ x from Int32.not_le.mpr q)]; rfl
theorem ex_okg {x : Int32} {n : Nat} (hn : n < 1073741824) (q : ¬ x < nI n) : rf_okN x n = false := by
  rw [← Bool.not_eq_true, rf_okN_t hn]
  rintro ⟨k, hk, rfl⟩
  exact q ((nI_ltI (by omega) (by omega)).mpr hk)
theorem ex_okt {x : Int32} {n : Nat} (hn : n < 1073741824) (q1 : ¬ x < 0) (q2 : x < nI n) : rf_okN x n = true := by
  obtain ⟨j, hj, rfl⟩ := nI_of q1
  exact (rf_okN_t hn).mpr ⟨j, (nI_ltI hj (by omega)).mp q2, rfl⟩
theorem ex_inD {x : Int32} {b : Nat} (hb : b < 1073741824) (h : ∀ k, k ≤ b → ¬ x = nI k) : rf_in x (nI 0) (nI b) = false := by
  cases hi : rf_in x (nI 0) (nI b) with
  | false => rfl
  | true =>
    have h1 := rf_in_n0 hb hi
    exact absurd h1.1 (h _ (by have := h1.2; omega))
end EXC
