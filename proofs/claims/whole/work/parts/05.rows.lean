/-! THE ROWS of the abstract machine: one an instruction -/
section AMR
variable {M : am_M} {D MC MS : Nat} {X : am_X} {V : am_V} {cs : Nat × Nat} {pc : Nat} {ls ls' : List (Nat × Value)} {st : List Value} {r : am_R} {h : am_H}
/-- a local variable -/
def am_get (ls : List (Nat × Value)) (i : Nat) : Option Value := match ls with
  | [] => none
  | q :: t => bif q.1 == i then some q.2 else am_get t i
def am_set (ls : List (Nat × Value)) (i : Nat) (v : Value) : List (Nat × Value) :=
  (bif ls.any (fun q => q.1 == i) then ls.map (fun q => bif q.1 == i then (i, v) else q) else ls ++ [(i, v)]).filter (fun q => !(q.1 + 1 == i && q.2.category == 2))
theorem am_get_mem {i : Nat} {v : Value} : ∀ {ls : List (Nat × Value)}, am_get ls i = some v → (i, v) ∈ ls
  | [], h => by simp [am_get] at h
  | q :: t, h => by
    rw [am_get] at h
    cases hq : q.1 == i with
    | true =>
      rw [hq] at h
      simp only [cond_true, Option.some.injEq] at h
      have h1 : q.1 = i := by simpa using hq
      rw [← h1, ← h]
      exact List.mem_cons_self
    | false =>
      rw [hq] at h
      exact List.mem_cons_of_mem _ (am_get_mem h)
theorem am_cat (ad : Nat → Nat) (v : Value) : (am_cv ad v).category = v.category := by cases v <;> rfl
theorem am_cats (ad : Nat → Nat) (st : List Value) : ((st.map (am_cv ad)).map fun v => v.category).sum = (st.map fun v => v.category).sum := by
  rw [List.map_map]
  congr 2
  funext v
  exact am_cat ad v
theorem am_load {ad : Nat → Nat} {lsA : Array Slot} {nL i : Nat} {v : Value} (hl : lv_has lsA nL (ls.map (am_cvp ad))) (hg : am_get ls i = some v) : lsA[i]? = some (.val (am_cv ad v)) :=
  hl.2.2 (i, am_cv ad v) (List.mem_map.mpr ⟨(i, v), am_get_mem hg, rfl⟩)
theorem am_set_mem {i : Nat} {v : Value} {q : Nat × Value} (hq : q ∈ am_set ls i v) : q = (i, v) ∨ (q ∈ ls ∧ ¬ q.1 = i ∧ ¬ (q.1 + 1 = i ∧ q.2.category = 2)) := by
  rw [am_set, List.mem_filter] at hq
  obtain ⟨h1, h2⟩ := hq
  have h3 : ¬ (q.1 + 1 = i ∧ q.2.category = 2) := by
    intro ⟨e1, e2⟩
    simp [e1, e2] at h2
  cases ha : ls.any (fun q => q.1 == i) with
  | true =>
    rw [ha] at h1
    simp only [cond_true, List.mem_map] at h1
    obtain ⟨z, hz, e⟩ := h1
    cases hc : z.1 == i with
    | true => rw [hc] at e; exact Or.inl e.symm
    | false =>
      rw [hc] at e
      simp only [cond_false] at e
      subst e
      exact Or.inr ⟨hz, by simpa using hc, h3⟩
  | false =>
    rw [ha] at h1
    simp only [cond_false, List.mem_append, List.mem_singleton] at h1
    rcases h1 with h1 | h1
    · refine Or.inr ⟨h1, ?_, h3⟩
      have := List.any_eq_false.mp ha q h1
      simpa using this
    · exact Or.inl h1
/-- a store's new locals, out of the kit's -/
theorem am_stored {ad : Nat → Nat} {lsA : Array Slot} {nL i : Nat} {v : Value} (hs : am_set ls i v = ls') (hl : lv_has lsA nL ((i, am_cv ad v) :: (ls.map (am_cvp ad)).filter (fun q => !(q.1 == i) && !(q.1 + 1 == i && q.2.category == 2)))) : lv_has lsA nL (ls'.map (am_cvp ad)) := by
  refine ⟨hl.1, hl.2.1, fun q hq => hl.2.2 q ?_⟩
  obtain ⟨z, hz, rfl⟩ := List.mem_map.mp hq
  subst hs
  rcases am_set_mem hz with rfl | ⟨h1, h2, h3⟩
  · exact List.mem_cons_self
  · refine List.mem_cons_of_mem _ (List.mem_filter.mpr ⟨List.mem_map.mpr ⟨z, h1, rfl⟩, ?_⟩)
    show (!(z.1 == i) && !(z.1 + 1 == i && (am_cv ad z.2).category == 2)) = true
    rw [am_cat]
    simp only [Bool.and_eq_true, Bool.not_eq_true', beq_eq_false_iff_ne, ne_eq, Bool.and_eq_false_imp, beq_iff_eq]
    exact ⟨h2, fun e => fun e2 => h3 ⟨e, e2⟩⟩
/-- fewer locals, in any order -/
theorem am_sub (hs : ∀ q ∈ ls', q ∈ ls) (k : am_G X V cs pc ls' st r h) : am_G X V cs pc ls st r h := by
  obtain ⟨⟨p, l, e, R⟩, ⟨s, m, args, below, meth, c⟩, ⟨A, Z⟩, ⟨dC, dI, dA⟩, adK⟩ := X
  intro H locs lsA hw hl
  refine k H locs lsA hw ⟨hl.1, hl.2.1, fun q hq => hl.2.2 q ?_⟩
  obtain ⟨z, hz, rfl⟩ := List.mem_map.mp hq
  exact List.mem_map.mpr ⟨z, hs z hz, rfl⟩
def am_pick (l : List (Nat × Value)) (ks : List Nat) : List (Nat × Value) := ks.filterMap (fun k => l[k]?)
theorem am_subp (ks : List Nat) (hs : am_pick ls ks = ls') (k : am_G X V cs pc ls' st r h) : am_G X V cs pc ls st r h := by
  refine am_sub (fun q hq => ?_) k
  subst hs
  obtain ⟨i, -, hi⟩ := List.mem_filterMap.mp hq
  exact List.mem_of_getElem? hi
theorem am_widen {cs' : Nat × Nat} (h1 : cs.1 ≤ cs'.1) (h2 : cs.2 ≤ cs'.2) (k : am_G X V cs' pc ls st r h) : am_G X V cs pc ls st r h := by
  obtain ⟨⟨p, l, e, R⟩, ⟨s, m, args, below, meth, c⟩, ⟨A, Z⟩, ⟨dC, dI, dA⟩, adK⟩ := X
  intro H locs lsA hw hl
  exact W.widen h1 h2 (k H locs lsA hw hl)
theorem am_iconst {n : Int} {v : Int32} (C : am_C M D MC MS X) (hd : decode M.2.1 pc = .ok (.iconst n, 1)) (hv : Int32.ofInt n = v) (k : am_G X V cs (pc + 1) ls (.int v :: st) r h) : am_G X V cs pc ls (st) r h := by
  obtain ⟨⟨p, l, e, R⟩, ⟨s, m, args, below, meth, c⟩, ⟨A, Z⟩, ⟨dC, dI, dA⟩, adK⟩ := X
  obtain ⟨⟨hx, hb, hml, hrt, hlk, hnm⟩, ⟨hown, hts, htr, hK⟩, ⟨hA, hE⟩, hDf, hDl, hMC, hMS⟩ := C
  intro H locs lsA hw hl
  exact lv_iconst hx hb hd hv (k H locs lsA hw hl)
theorem am_bipush {n : Int} {v : Int32} (C : am_C M D MC MS X) (hd : decode M.2.1 pc = .ok (.bipush n, 2)) (hv : (Int8.ofInt n).toInt32 = v) (k : am_G X V cs (pc + 2) ls (.int v :: st) r h) : am_G X V cs pc ls (st) r h := by
  obtain ⟨⟨p, l, e, R⟩, ⟨s, m, args, below, meth, c⟩, ⟨A, Z⟩, ⟨dC, dI, dA⟩, adK⟩ := X
  obtain ⟨⟨hx, hb, hml, hrt, hlk, hnm⟩, ⟨hown, hts, htr, hK⟩, ⟨hA, hE⟩, hDf, hDl, hMC, hMS⟩ := C
  intro H locs lsA hw hl
  exact lv_bipush hx hb hd hv (k H locs lsA hw hl)
theorem am_sipush {n : Int} {v : Int32} (C : am_C M D MC MS X) (hd : decode M.2.1 pc = .ok (.sipush n, 3)) (hv : (Int16.ofInt n).toInt32 = v) (k : am_G X V cs (pc + 3) ls (.int v :: st) r h) : am_G X V cs pc ls (st) r h := by
  obtain ⟨⟨p, l, e, R⟩, ⟨s, m, args, below, meth, c⟩, ⟨A, Z⟩, ⟨dC, dI, dA⟩, adK⟩ := X
  obtain ⟨⟨hx, hb, hml, hrt, hlk, hnm⟩, ⟨hown, hts, htr, hK⟩, ⟨hA, hE⟩, hDf, hDl, hMC, hMS⟩ := C
  intro H locs lsA hw hl
  exact lv_sipush hx hb hd hv (k H locs lsA hw hl)
theorem am_null (C : am_C M D MC MS X) (hd : decode M.2.1 pc = .ok (.aconst_null, 1)) (k : am_G X V cs (pc + 1) ls (.null :: st) r h) : am_G X V cs pc ls (st) r h := by
  obtain ⟨⟨p, l, e, R⟩, ⟨s, m, args, below, meth, c⟩, ⟨A, Z⟩, ⟨dC, dI, dA⟩, adK⟩ := X
  obtain ⟨⟨hx, hb, hml, hrt, hlk, hnm⟩, ⟨hown, hts, htr, hK⟩, ⟨hA, hE⟩, hDf, hDl, hMC, hMS⟩ := C
  intro H locs lsA hw hl
  exact lv_null hx hb hd (k H locs lsA hw hl)
theorem am_ldci {ix : Nat} {v : Int32} (C : am_C M D MC MS X) (hd : decode M.2.1 pc = .ok (.ldc ix, 2)) (hc : Cond.constant M.1.cls ix v ∈ am_GW) (k : am_G X V cs (pc + 2) ls (.int v :: st) r h) : am_G X V cs pc ls (st) r h := by
  obtain ⟨⟨p, l, e, R⟩, ⟨s, m, args, below, meth, c⟩, ⟨A, Z⟩, ⟨dC, dI, dA⟩, adK⟩ := X
  obtain ⟨⟨hx, hb, hml, hrt, hlk, hnm⟩, ⟨hown, hts, htr, hK⟩, ⟨hA, hE⟩, hDf, hDl, hMC, hMS⟩ := C
  intro H locs lsA hw hl
  exact lv_ldc hx hb hown (hts _ (List.mem_cons_of_mem _ hc)) hd (k H locs lsA hw hl)
theorem am_iload {i : Nat} {x : Int32} (C : am_C M D MC MS X) (hd : decode M.2.1 pc = .ok (.iload i, 2)) (hg : am_get ls i = some (.int x)) (k : am_G X V cs (pc + 2) ls (.int x :: st) r h) : am_G X V cs pc ls (st) r h := by
  obtain ⟨⟨p, l, e, R⟩, ⟨s, m, args, below, meth, c⟩, ⟨A, Z⟩, ⟨dC, dI, dA⟩, adK⟩ := X
  obtain ⟨⟨hx, hb, hml, hrt, hlk, hnm⟩, ⟨hown, hts, htr, hK⟩, ⟨hA, hE⟩, hDf, hDl, hMC, hMS⟩ := C
  intro H locs lsA hw hl
  exact lv_iload hx hb hd (am_load hl hg) (k H locs lsA hw hl)
theorem am_iload_n {i : Fin 4} {x : Int32} (C : am_C M D MC MS X) (hd : decode M.2.1 pc = .ok (.iload_n i, 1)) (hg : am_get ls i.1 = some (.int x)) (k : am_G X V cs (pc + 1) ls (.int x :: st) r h) : am_G X V cs pc ls (st) r h := by
  obtain ⟨⟨p, l, e, R⟩, ⟨s, m, args, below, meth, c⟩, ⟨A, Z⟩, ⟨dC, dI, dA⟩, adK⟩ := X
  obtain ⟨⟨hx, hb, hml, hrt, hlk, hnm⟩, ⟨hown, hts, htr, hK⟩, ⟨hA, hE⟩, hDf, hDl, hMC, hMS⟩ := C
  intro H locs lsA hw hl
  exact lv_iload_n hx hb hd rfl (am_load hl hg) (k H locs lsA hw hl)
theorem am_istore {i : Nat} {x : Int32} (C : am_C M D MC MS X) (hd : decode M.2.1 pc = .ok (.istore i, 2)) (hn : i < M.2.2.1) (hs : am_set ls i (.int x) = ls') (k : am_G X V cs (pc + 2) ls' (st) r h) : am_G X V cs pc ls (.int x :: st) r h := by
  obtain ⟨⟨p, l, e, R⟩, ⟨s, m, args, below, meth, c⟩, ⟨A, Z⟩, ⟨dC, dI, dA⟩, adK⟩ := X
  obtain ⟨⟨hx, hb, hml, hrt, hlk, hnm⟩, ⟨hown, hts, htr, hK⟩, ⟨hA, hE⟩, hDf, hDl, hMC, hMS⟩ := C
  intro H locs lsA hw hl
  exact lv_istore hx hb hd hl (by rw [hml]; exact hn) rfl (fun lsB hl2 => k H locs lsB hw (am_stored (v := .int x) hs hl2))
theorem am_istore_n {i : Fin 4} {x : Int32} (C : am_C M D MC MS X) (hd : decode M.2.1 pc = .ok (.istore_n i, 1)) (hn : i.1 < M.2.2.1) (hs : am_set ls i.1 (.int x) = ls') (k : am_G X V cs (pc + 1) ls' (st) r h) : am_G X V cs pc ls (.int x :: st) r h := by
  obtain ⟨⟨p, l, e, R⟩, ⟨s, m, args, below, meth, c⟩, ⟨A, Z⟩, ⟨dC, dI, dA⟩, adK⟩ := X
  obtain ⟨⟨hx, hb, hml, hrt, hlk, hnm⟩, ⟨hown, hts, htr, hK⟩, ⟨hA, hE⟩, hDf, hDl, hMC, hMS⟩ := C
  intro H locs lsA hw hl
  exact lv_istore_n hx hb hd rfl hl (by rw [hml]; exact hn) rfl (fun lsB hl2 => k H locs lsB hw (am_stored (v := .int x) hs hl2))
theorem am_aload {i : Nat} {x : Nat} (C : am_C M D MC MS X) (hd : decode M.2.1 pc = .ok (.aload i, 2)) (hg : am_get ls i = some (.ref x)) (k : am_G X V cs (pc + 2) ls (.ref x :: st) r h) : am_G X V cs pc ls (st) r h := by
  obtain ⟨⟨p, l, e, R⟩, ⟨s, m, args, below, meth, c⟩, ⟨A, Z⟩, ⟨dC, dI, dA⟩, adK⟩ := X
  obtain ⟨⟨hx, hb, hml, hrt, hlk, hnm⟩, ⟨hown, hts, htr, hK⟩, ⟨hA, hE⟩, hDf, hDl, hMC, hMS⟩ := C
  intro H locs lsA hw hl
  exact lv_aload hx hb hd (am_load hl hg) (k H locs lsA hw hl)
theorem am_aload_n {i : Fin 4} {x : Nat} (C : am_C M D MC MS X) (hd : decode M.2.1 pc = .ok (.aload_n i, 1)) (hg : am_get ls i.1 = some (.ref x)) (k : am_G X V cs (pc + 1) ls (.ref x :: st) r h) : am_G X V cs pc ls (st) r h := by
  obtain ⟨⟨p, l, e, R⟩, ⟨s, m, args, below, meth, c⟩, ⟨A, Z⟩, ⟨dC, dI, dA⟩, adK⟩ := X
  obtain ⟨⟨hx, hb, hml, hrt, hlk, hnm⟩, ⟨hown, hts, htr, hK⟩, ⟨hA, hE⟩, hDf, hDl, hMC, hMS⟩ := C
  intro H locs lsA hw hl
  exact lv_aload_n hx hb hd rfl (am_load hl hg) (k H locs lsA hw hl)
theorem am_astore {i : Nat} {x : Nat} (C : am_C M D MC MS X) (hd : decode M.2.1 pc = .ok (.astore i, 2)) (hn : i < M.2.2.1) (hs : am_set ls i (.ref x) = ls') (k : am_G X V cs (pc + 2) ls' (st) r h) : am_G X V cs pc ls (.ref x :: st) r h := by
  obtain ⟨⟨p, l, e, R⟩, ⟨s, m, args, below, meth, c⟩, ⟨A, Z⟩, ⟨dC, dI, dA⟩, adK⟩ := X
  obtain ⟨⟨hx, hb, hml, hrt, hlk, hnm⟩, ⟨hown, hts, htr, hK⟩, ⟨hA, hE⟩, hDf, hDl, hMC, hMS⟩ := C
  intro H locs lsA hw hl
  exact lv_astore hx hb hd hl (by rw [hml]; exact hn) rfl (fun lsB hl2 => k H locs lsB hw (am_stored (v := .ref x) hs hl2))
theorem am_astore_n {i : Fin 4} {x : Nat} (C : am_C M D MC MS X) (hd : decode M.2.1 pc = .ok (.astore_n i, 1)) (hn : i.1 < M.2.2.1) (hs : am_set ls i.1 (.ref x) = ls') (k : am_G X V cs (pc + 1) ls' (st) r h) : am_G X V cs pc ls (.ref x :: st) r h := by
  obtain ⟨⟨p, l, e, R⟩, ⟨s, m, args, below, meth, c⟩, ⟨A, Z⟩, ⟨dC, dI, dA⟩, adK⟩ := X
  obtain ⟨⟨hx, hb, hml, hrt, hlk, hnm⟩, ⟨hown, hts, htr, hK⟩, ⟨hA, hE⟩, hDf, hDl, hMC, hMS⟩ := C
  intro H locs lsA hw hl
  exact lv_astore_n hx hb hd rfl hl (by rw [hml]; exact hn) rfl (fun lsB hl2 => k H locs lsB hw (am_stored (v := .ref x) hs hl2))
theorem am_iadd {x y : Int32} (C : am_C M D MC MS X) (hd : decode M.2.1 pc = .ok (.iadd, 1)) (k : am_G X V cs (pc + 1) ls (.int (x + y) :: st) r h) : am_G X V cs pc ls (.int y :: .int x :: st) r h := by
  obtain ⟨⟨p, l, e, R⟩, ⟨s, m, args, below, meth, c⟩, ⟨A, Z⟩, ⟨dC, dI, dA⟩, adK⟩ := X
  obtain ⟨⟨hx, hb, hml, hrt, hlk, hnm⟩, ⟨hown, hts, htr, hK⟩, ⟨hA, hE⟩, hDf, hDl, hMC, hMS⟩ := C
  intro H locs lsA hw hl
  exact lv_iadd hx hb hd (k H locs lsA hw hl)
theorem am_isub {x y : Int32} (C : am_C M D MC MS X) (hd : decode M.2.1 pc = .ok (.isub, 1)) (k : am_G X V cs (pc + 1) ls (.int (x - y) :: st) r h) : am_G X V cs pc ls (.int y :: .int x :: st) r h := by
  obtain ⟨⟨p, l, e, R⟩, ⟨s, m, args, below, meth, c⟩, ⟨A, Z⟩, ⟨dC, dI, dA⟩, adK⟩ := X
  obtain ⟨⟨hx, hb, hml, hrt, hlk, hnm⟩, ⟨hown, hts, htr, hK⟩, ⟨hA, hE⟩, hDf, hDl, hMC, hMS⟩ := C
  intro H locs lsA hw hl
  exact lv_isub hx hb hd (k H locs lsA hw hl)
theorem am_imul {x y : Int32} (C : am_C M D MC MS X) (hd : decode M.2.1 pc = .ok (.imul, 1)) (k : am_G X V cs (pc + 1) ls (.int (x * y) :: st) r h) : am_G X V cs pc ls (.int y :: .int x :: st) r h := by
  obtain ⟨⟨p, l, e, R⟩, ⟨s, m, args, below, meth, c⟩, ⟨A, Z⟩, ⟨dC, dI, dA⟩, adK⟩ := X
  obtain ⟨⟨hx, hb, hml, hrt, hlk, hnm⟩, ⟨hown, hts, htr, hK⟩, ⟨hA, hE⟩, hDf, hDl, hMC, hMS⟩ := C
  intro H locs lsA hw hl
  exact lv_imul hx hb hd (k H locs lsA hw hl)
theorem am_iand {x y : Int32} (C : am_C M D MC MS X) (hd : decode M.2.1 pc = .ok (.iand, 1)) (k : am_G X V cs (pc + 1) ls (.int (x &&& y) :: st) r h) : am_G X V cs pc ls (.int y :: .int x :: st) r h := by
  obtain ⟨⟨p, l, e, R⟩, ⟨s, m, args, below, meth, c⟩, ⟨A, Z⟩, ⟨dC, dI, dA⟩, adK⟩ := X
  obtain ⟨⟨hx, hb, hml, hrt, hlk, hnm⟩, ⟨hown, hts, htr, hK⟩, ⟨hA, hE⟩, hDf, hDl, hMC, hMS⟩ := C
  intro H locs lsA hw hl
  exact lv_iand hx hb hd (k H locs lsA hw hl)
theorem am_ior {x y : Int32} (C : am_C M D MC MS X) (hd : decode M.2.1 pc = .ok (.ior, 1)) (k : am_G X V cs (pc + 1) ls (.int (x ||| y) :: st) r h) : am_G X V cs pc ls (.int y :: .int x :: st) r h := by
  obtain ⟨⟨p, l, e, R⟩, ⟨s, m, args, below, meth, c⟩, ⟨A, Z⟩, ⟨dC, dI, dA⟩, adK⟩ := X
  obtain ⟨⟨hx, hb, hml, hrt, hlk, hnm⟩, ⟨hown, hts, htr, hK⟩, ⟨hA, hE⟩, hDf, hDl, hMC, hMS⟩ := C
  intro H locs lsA hw hl
  exact lv_ior hx hb hd (k H locs lsA hw hl)
theorem am_ixor {x y : Int32} (C : am_C M D MC MS X) (hd : decode M.2.1 pc = .ok (.ixor, 1)) (k : am_G X V cs (pc + 1) ls (.int (x ^^^ y) :: st) r h) : am_G X V cs pc ls (.int y :: .int x :: st) r h := by
  obtain ⟨⟨p, l, e, R⟩, ⟨s, m, args, below, meth, c⟩, ⟨A, Z⟩, ⟨dC, dI, dA⟩, adK⟩ := X
  obtain ⟨⟨hx, hb, hml, hrt, hlk, hnm⟩, ⟨hown, hts, htr, hK⟩, ⟨hA, hE⟩, hDf, hDl, hMC, hMS⟩ := C
  intro H locs lsA hw hl
  exact lv_ixor hx hb hd (k H locs lsA hw hl)
theorem am_ishl {x y : Int32} (C : am_C M D MC MS X) (hd : decode M.2.1 pc = .ok (.ishl, 1)) (k : am_G X V cs (pc + 1) ls (.int (x <<< (y &&& 31)) :: st) r h) : am_G X V cs pc ls (.int y :: .int x :: st) r h := by
  obtain ⟨⟨p, l, e, R⟩, ⟨s, m, args, below, meth, c⟩, ⟨A, Z⟩, ⟨dC, dI, dA⟩, adK⟩ := X
  obtain ⟨⟨hx, hb, hml, hrt, hlk, hnm⟩, ⟨hown, hts, htr, hK⟩, ⟨hA, hE⟩, hDf, hDl, hMC, hMS⟩ := C
  intro H locs lsA hw hl
  exact lv_ishl hx hb hd (k H locs lsA hw hl)
theorem am_ishr {x y : Int32} (C : am_C M D MC MS X) (hd : decode M.2.1 pc = .ok (.ishr, 1)) (k : am_G X V cs (pc + 1) ls (.int (x >>> (y &&& 31)) :: st) r h) : am_G X V cs pc ls (.int y :: .int x :: st) r h := by
  obtain ⟨⟨p, l, e, R⟩, ⟨s, m, args, below, meth, c⟩, ⟨A, Z⟩, ⟨dC, dI, dA⟩, adK⟩ := X
  obtain ⟨⟨hx, hb, hml, hrt, hlk, hnm⟩, ⟨hown, hts, htr, hK⟩, ⟨hA, hE⟩, hDf, hDl, hMC, hMS⟩ := C
  intro H locs lsA hw hl
  exact lv_ishr hx hb hd (k H locs lsA hw hl)
theorem am_idiv {x y : Int32} (C : am_C M D MC MS X) (hd : decode M.2.1 pc = .ok (.idiv, 1)) (hne : ¬ y = 0) (k : am_G X V cs (pc + 1) ls (.int (x / y) :: st) r h) : am_G X V cs pc ls (.int y :: .int x :: st) r h := by
  obtain ⟨⟨p, l, e, R⟩, ⟨s, m, args, below, meth, c⟩, ⟨A, Z⟩, ⟨dC, dI, dA⟩, adK⟩ := X
  obtain ⟨⟨hx, hb, hml, hrt, hlk, hnm⟩, ⟨hown, hts, htr, hK⟩, ⟨hA, hE⟩, hDf, hDl, hMC, hMS⟩ := C
  intro H locs lsA hw hl
  exact lv_idiv hx hb hd hne (k H locs lsA hw hl)
theorem am_irem {x y : Int32} (C : am_C M D MC MS X) (hd : decode M.2.1 pc = .ok (.irem, 1)) (hne : ¬ y = 0) (k : am_G X V cs (pc + 1) ls (.int (x - x / y * y) :: st) r h) : am_G X V cs pc ls (.int y :: .int x :: st) r h := by
  obtain ⟨⟨p, l, e, R⟩, ⟨s, m, args, below, meth, c⟩, ⟨A, Z⟩, ⟨dC, dI, dA⟩, adK⟩ := X
  obtain ⟨⟨hx, hb, hml, hrt, hlk, hnm⟩, ⟨hown, hts, htr, hK⟩, ⟨hA, hE⟩, hDf, hDl, hMC, hMS⟩ := C
  intro H locs lsA hw hl
  exact lv_irem hx hb hd hne (k H locs lsA hw hl)
theorem am_ineg {x : Int32} (C : am_C M D MC MS X) (hd : decode M.2.1 pc = .ok (.ineg, 1)) (k : am_G X V cs (pc + 1) ls (.int (-x) :: st) r h) : am_G X V cs pc ls (.int x :: st) r h := by
  obtain ⟨⟨p, l, e, R⟩, ⟨s, m, args, below, meth, c⟩, ⟨A, Z⟩, ⟨dC, dI, dA⟩, adK⟩ := X
  obtain ⟨⟨hx, hb, hml, hrt, hlk, hnm⟩, ⟨hown, hts, htr, hK⟩, ⟨hA, hE⟩, hDf, hDl, hMC, hMS⟩ := C
  intro H locs lsA hw hl
  exact lv_ineg hx hb hd (k H locs lsA hw hl)
theorem am_i2b {x : Int32} (C : am_C M D MC MS X) (hd : decode M.2.1 pc = .ok (.i2b, 1)) (k : am_G X V cs (pc + 1) ls (.int x.toInt8.toInt32 :: st) r h) : am_G X V cs pc ls (.int x :: st) r h := by
  obtain ⟨⟨p, l, e, R⟩, ⟨s, m, args, below, meth, c⟩, ⟨A, Z⟩, ⟨dC, dI, dA⟩, adK⟩ := X
  obtain ⟨⟨hx, hb, hml, hrt, hlk, hnm⟩, ⟨hown, hts, htr, hK⟩, ⟨hA, hE⟩, hDf, hDl, hMC, hMS⟩ := C
  intro H locs lsA hw hl
  exact lv_i2b hx hb hd rfl (k H locs lsA hw hl)
theorem am_i2l {x : Int32} (C : am_C M D MC MS X) (hd : decode M.2.1 pc = .ok (.i2l, 1)) (k : am_G X V cs (pc + 1) ls (.long x.toInt64 :: st) r h) : am_G X V cs pc ls (.int x :: st) r h := by
  obtain ⟨⟨p, l, e, R⟩, ⟨s, m, args, below, meth, c⟩, ⟨A, Z⟩, ⟨dC, dI, dA⟩, adK⟩ := X
  obtain ⟨⟨hx, hb, hml, hrt, hlk, hnm⟩, ⟨hown, hts, htr, hK⟩, ⟨hA, hE⟩, hDf, hDl, hMC, hMS⟩ := C
  intro H locs lsA hw hl
  exact lv_i2l hx hb hd rfl (k H locs lsA hw hl)
theorem am_lcmp {x y : Int64} (C : am_C M D MC MS X) (hd : decode M.2.1 pc = .ok (.lcmp, 1)) (k : am_G X V cs (pc + 1) ls (.int (lg_cmp x y) :: st) r h) : am_G X V cs pc ls (.long y :: .long x :: st) r h := by
  obtain ⟨⟨p, l, e, R⟩, ⟨s, m, args, below, meth, c⟩, ⟨A, Z⟩, ⟨dC, dI, dA⟩, adK⟩ := X
  obtain ⟨⟨hx, hb, hml, hrt, hlk, hnm⟩, ⟨hown, hts, htr, hK⟩, ⟨hA, hE⟩, hDf, hDl, hMC, hMS⟩ := C
  intro H locs lsA hw hl
  exact W.lcmp hx hb hd (k H locs lsA hw hl)
theorem am_iinc {i : Nat} {n : Int} {x v : Int32} (C : am_C M D MC MS X) (hd : decode M.2.1 pc = .ok (.iinc i n, 3)) (hg : am_get ls i = some (.int x)) (hv : x + Int32.ofInt n = v) (hn : i < M.2.2.1) (hs : am_set ls i (.int v) = ls') (k : am_G X V cs (pc + 3) ls' st r h) : am_G X V cs pc ls st r h := by
  obtain ⟨⟨p, l, e, R⟩, ⟨s, m, args, below, meth, c⟩, ⟨A, Z⟩, ⟨dC, dI, dA⟩, adK⟩ := X
  obtain ⟨⟨hx, hb, hml, hrt, hlk, hnm⟩, ⟨hown, hts, htr, hK⟩, ⟨hA, hE⟩, hDf, hDl, hMC, hMS⟩ := C
  intro H locs lsA hw hl
  obtain ⟨j, hj⟩ := List.getElem?_of_mem (am_get_mem hg)
  have hj2 : (ls.map (am_cvp V.1))[j]? = some (i, .int x) := by rw [List.getElem?_map, hj]; rfl
  exact lv_iinc hx hb hd hl hj2 hv (by rw [hml]; exact hn) rfl (fun lsB hl2 => k H locs lsB hw (am_stored (v := .int v) hs hl2))
theorem am_dup {v : Value} (C : am_C M D MC MS X) (hd : decode M.2.1 pc = .ok (.dup, 1)) (hc : v.category = 1) (k : am_G X V cs (pc + 1) ls (v :: v :: st) r h) : am_G X V cs pc ls (v :: st) r h := by
  obtain ⟨⟨p, l, e, R⟩, ⟨s, m, args, below, meth, c⟩, ⟨A, Z⟩, ⟨dC, dI, dA⟩, adK⟩ := X
  obtain ⟨⟨hx, hb, hml, hrt, hlk, hnm⟩, ⟨hown, hts, htr, hK⟩, ⟨hA, hE⟩, hDf, hDl, hMC, hMS⟩ := C
  intro H locs lsA hw hl
  exact lv_dup hx hb hd ((am_cat _ _).trans hc) (k H locs lsA hw hl)
theorem am_dup2 {v w : Value} (C : am_C M D MC MS X) (hd : decode M.2.1 pc = .ok (.dup2, 1)) (hc : v.category = 1) (hc2 : w.category = 1) (k : am_G X V cs (pc + 1) ls (v :: w :: v :: w :: st) r h) : am_G X V cs pc ls (v :: w :: st) r h := by
  obtain ⟨⟨p, l, e, R⟩, ⟨s, m, args, below, meth, c⟩, ⟨A, Z⟩, ⟨dC, dI, dA⟩, adK⟩ := X
  obtain ⟨⟨hx, hb, hml, hrt, hlk, hnm⟩, ⟨hown, hts, htr, hK⟩, ⟨hA, hE⟩, hDf, hDl, hMC, hMS⟩ := C
  intro H locs lsA hw hl
  exact lv_dup2_11 hx hb hd ((am_cat _ _).trans hc) ((am_cat _ _).trans hc2) (k H locs lsA hw hl)
theorem am_pop {v : Value} (C : am_C M D MC MS X) (hd : decode M.2.1 pc = .ok (.pop, 1)) (hc : v.category = 1) (k : am_G X V cs (pc + 1) ls (st) r h) : am_G X V cs pc ls (v :: st) r h := by
  obtain ⟨⟨p, l, e, R⟩, ⟨s, m, args, below, meth, c⟩, ⟨A, Z⟩, ⟨dC, dI, dA⟩, adK⟩ := X
  obtain ⟨⟨hx, hb, hml, hrt, hlk, hnm⟩, ⟨hown, hts, htr, hK⟩, ⟨hA, hE⟩, hDf, hDl, hMC, hMS⟩ := C
  intro H locs lsA hw hl
  exact lv_pop hx hb hd ((am_cat _ _).trans hc) (k H locs lsA hw hl)
theorem am_goto {off : Int} {tgt : Nat} (C : am_C M D MC MS X) (hd : decode M.2.1 pc = .ok (.goto off, 3)) (ht : (pc : Int) + off = (tgt : Int)) (k : am_G X V cs tgt ls (st) r h) : am_G X V cs pc ls (st) r h := by
  obtain ⟨⟨p, l, e, R⟩, ⟨s, m, args, below, meth, c⟩, ⟨A, Z⟩, ⟨dC, dI, dA⟩, adK⟩ := X
  obtain ⟨⟨hx, hb, hml, hrt, hlk, hnm⟩, ⟨hown, hts, htr, hK⟩, ⟨hA, hE⟩, hDf, hDl, hMC, hMS⟩ := C
  intro H locs lsA hw hl
  exact lv_goto hx hb hd ht (k H locs lsA hw hl)
theorem am_if_eq {x : Int32} {off : Int} {tgt : Nat} (C : am_C M D MC MS X) (hd : decode M.2.1 pc = .ok (.ifCond .eq off, 3)) (ht : (pc : Int) + off = (tgt : Int)) (kt : x = 0 → am_G X V cs tgt ls st r h) (kf : ¬ x = 0 → am_G X V cs (pc + 3) ls st r h) : am_G X V cs pc ls (.int x :: st) r h := by
  obtain ⟨⟨p, l, e, R⟩, ⟨s, m, args, below, meth, c⟩, ⟨A, Z⟩, ⟨dC, dI, dA⟩, adK⟩ := X
  obtain ⟨⟨hx, hb, hml, hrt, hlk, hnm⟩, ⟨hown, hts, htr, hK⟩, ⟨hA, hE⟩, hDf, hDl, hMC, hMS⟩ := C
  intro H locs lsA hw hl
  exact lv_if_eq hx hb hd ht (fun q => kt q H locs lsA hw hl) (fun q => kf q H locs lsA hw hl)
theorem am_if_ne {x : Int32} {off : Int} {tgt : Nat} (C : am_C M D MC MS X) (hd : decode M.2.1 pc = .ok (.ifCond .ne off, 3)) (ht : (pc : Int) + off = (tgt : Int)) (kt : ¬ x = 0 → am_G X V cs tgt ls st r h) (kf : x = 0 → am_G X V cs (pc + 3) ls st r h) : am_G X V cs pc ls (.int x :: st) r h := by
  obtain ⟨⟨p, l, e, R⟩, ⟨s, m, args, below, meth, c⟩, ⟨A, Z⟩, ⟨dC, dI, dA⟩, adK⟩ := X
  obtain ⟨⟨hx, hb, hml, hrt, hlk, hnm⟩, ⟨hown, hts, htr, hK⟩, ⟨hA, hE⟩, hDf, hDl, hMC, hMS⟩ := C
  intro H locs lsA hw hl
  exact lv_if_ne hx hb hd ht (fun q => kt q H locs lsA hw hl) (fun q => kf q H locs lsA hw hl)
theorem am_if_lt {x : Int32} {off : Int} {tgt : Nat} (C : am_C M D MC MS X) (hd : decode M.2.1 pc = .ok (.ifCond .lt off, 3)) (ht : (pc : Int) + off = (tgt : Int)) (kt : x < 0 → am_G X V cs tgt ls st r h) (kf : ¬ x < 0 → am_G X V cs (pc + 3) ls st r h) : am_G X V cs pc ls (.int x :: st) r h := by
  obtain ⟨⟨p, l, e, R⟩, ⟨s, m, args, below, meth, c⟩, ⟨A, Z⟩, ⟨dC, dI, dA⟩, adK⟩ := X
  obtain ⟨⟨hx, hb, hml, hrt, hlk, hnm⟩, ⟨hown, hts, htr, hK⟩, ⟨hA, hE⟩, hDf, hDl, hMC, hMS⟩ := C
  intro H locs lsA hw hl
  exact lv_if_lt hx hb hd ht (fun q => kt q H locs lsA hw hl) (fun q => kf q H locs lsA hw hl)
theorem am_if_ge {x : Int32} {off : Int} {tgt : Nat} (C : am_C M D MC MS X) (hd : decode M.2.1 pc = .ok (.ifCond .ge off, 3)) (ht : (pc : Int) + off = (tgt : Int)) (kt : 0 ≤ x → am_G X V cs tgt ls st r h) (kf : ¬ 0 ≤ x → am_G X V cs (pc + 3) ls st r h) : am_G X V cs pc ls (.int x :: st) r h := by
  obtain ⟨⟨p, l, e, R⟩, ⟨s, m, args, below, meth, c⟩, ⟨A, Z⟩, ⟨dC, dI, dA⟩, adK⟩ := X
  obtain ⟨⟨hx, hb, hml, hrt, hlk, hnm⟩, ⟨hown, hts, htr, hK⟩, ⟨hA, hE⟩, hDf, hDl, hMC, hMS⟩ := C
  intro H locs lsA hw hl
  exact lv_if_ge hx hb hd ht (fun q => kt q H locs lsA hw hl) (fun q => kf q H locs lsA hw hl)
theorem am_if_gt {x : Int32} {off : Int} {tgt : Nat} (C : am_C M D MC MS X) (hd : decode M.2.1 pc = .ok (.ifCond .gt off, 3)) (ht : (pc : Int) + off = (tgt : Int)) (kt : 0 < x → am_G X V cs tgt ls st r h) (kf : ¬ 0 < x → am_G X V cs (pc + 3) ls st r h) : am_G X V cs pc ls (.int x :: st) r h := by
  obtain ⟨⟨p, l, e, R⟩, ⟨s, m, args, below, meth, c⟩, ⟨A, Z⟩, ⟨dC, dI, dA⟩, adK⟩ := X
  obtain ⟨⟨hx, hb, hml, hrt, hlk, hnm⟩, ⟨hown, hts, htr, hK⟩, ⟨hA, hE⟩, hDf, hDl, hMC, hMS⟩ := C
  intro H locs lsA hw hl
  exact lv_if_gt hx hb hd ht (fun q => kt q H locs lsA hw hl) (fun q => kf q H locs lsA hw hl)
theorem am_if_le {x : Int32} {off : Int} {tgt : Nat} (C : am_C M D MC MS X) (hd : decode M.2.1 pc = .ok (.ifCond .le off, 3)) (ht : (pc : Int) + off = (tgt : Int)) (kt : x ≤ 0 → am_G X V cs tgt ls st r h) (kf : ¬ x ≤ 0 → am_G X V cs (pc + 3) ls st r h) : am_G X V cs pc ls (.int x :: st) r h := by
  obtain ⟨⟨p, l, e, R⟩, ⟨s, m, args, below, meth, c⟩, ⟨A, Z⟩, ⟨dC, dI, dA⟩, adK⟩ := X
  obtain ⟨⟨hx, hb, hml, hrt, hlk, hnm⟩, ⟨hown, hts, htr, hK⟩, ⟨hA, hE⟩, hDf, hDl, hMC, hMS⟩ := C
  intro H locs lsA hw hl
  exact lv_if_le hx hb hd ht (fun q => kt q H locs lsA hw hl) (fun q => kf q H locs lsA hw hl)
theorem am_icmp_eq {x y : Int32} {off : Int} {tgt : Nat} (C : am_C M D MC MS X) (hd : decode M.2.1 pc = .ok (.if_icmp .eq off, 3)) (ht : (pc : Int) + off = (tgt : Int)) (kt : x = y → am_G X V cs tgt ls st r h) (kf : ¬ x = y → am_G X V cs (pc + 3) ls st r h) : am_G X V cs pc ls (.int y :: .int x :: st) r h := by
  obtain ⟨⟨p, l, e, R⟩, ⟨s, m, args, below, meth, c⟩, ⟨A, Z⟩, ⟨dC, dI, dA⟩, adK⟩ := X
  obtain ⟨⟨hx, hb, hml, hrt, hlk, hnm⟩, ⟨hown, hts, htr, hK⟩, ⟨hA, hE⟩, hDf, hDl, hMC, hMS⟩ := C
  intro H locs lsA hw hl
  exact lv_icmp_eq hx hb hd ht (fun q => kt q H locs lsA hw hl) (fun q => kf q H locs lsA hw hl)
theorem am_icmp_ne {x y : Int32} {off : Int} {tgt : Nat} (C : am_C M D MC MS X) (hd : decode M.2.1 pc = .ok (.if_icmp .ne off, 3)) (ht : (pc : Int) + off = (tgt : Int)) (kt : ¬ x = y → am_G X V cs tgt ls st r h) (kf : x = y → am_G X V cs (pc + 3) ls st r h) : am_G X V cs pc ls (.int y :: .int x :: st) r h := by
  obtain ⟨⟨p, l, e, R⟩, ⟨s, m, args, below, meth, c⟩, ⟨A, Z⟩, ⟨dC, dI, dA⟩, adK⟩ := X
  obtain ⟨⟨hx, hb, hml, hrt, hlk, hnm⟩, ⟨hown, hts, htr, hK⟩, ⟨hA, hE⟩, hDf, hDl, hMC, hMS⟩ := C
  intro H locs lsA hw hl
  exact lv_icmp_ne hx hb hd ht (fun q => kt q H locs lsA hw hl) (fun q => kf q H locs lsA hw hl)
theorem am_icmp_lt {x y : Int32} {off : Int} {tgt : Nat} (C : am_C M D MC MS X) (hd : decode M.2.1 pc = .ok (.if_icmp .lt off, 3)) (ht : (pc : Int) + off = (tgt : Int)) (kt : x < y → am_G X V cs tgt ls st r h) (kf : ¬ x < y → am_G X V cs (pc + 3) ls st r h) : am_G X V cs pc ls (.int y :: .int x :: st) r h := by
  obtain ⟨⟨p, l, e, R⟩, ⟨s, m, args, below, meth, c⟩, ⟨A, Z⟩, ⟨dC, dI, dA⟩, adK⟩ := X
  obtain ⟨⟨hx, hb, hml, hrt, hlk, hnm⟩, ⟨hown, hts, htr, hK⟩, ⟨hA, hE⟩, hDf, hDl, hMC, hMS⟩ := C
  intro H locs lsA hw hl
  exact lv_icmp_lt hx hb hd ht (fun q => kt q H locs lsA hw hl) (fun q => kf q H locs lsA hw hl)
theorem am_icmp_ge {x y : Int32} {off : Int} {tgt : Nat} (C : am_C M D MC MS X) (hd : decode M.2.1 pc = .ok (.if_icmp .ge off, 3)) (ht : (pc : Int) + off = (tgt : Int)) (kt : y ≤ x → am_G X V cs tgt ls st r h) (kf : ¬ y ≤ x → am_G X V cs (pc + 3) ls st r h) : am_G X V cs pc ls (.int y :: .int x :: st) r h := by
  obtain ⟨⟨p, l, e, R⟩, ⟨s, m, args, below, meth, c⟩, ⟨A, Z⟩, ⟨dC, dI, dA⟩, adK⟩ := X
  obtain ⟨⟨hx, hb, hml, hrt, hlk, hnm⟩, ⟨hown, hts, htr, hK⟩, ⟨hA, hE⟩, hDf, hDl, hMC, hMS⟩ := C
  intro H locs lsA hw hl
  exact lv_icmp_ge hx hb hd ht (fun q => kt q H locs lsA hw hl) (fun q => kf q H locs lsA hw hl)
theorem am_icmp_gt {x y : Int32} {off : Int} {tgt : Nat} (C : am_C M D MC MS X) (hd : decode M.2.1 pc = .ok (.if_icmp .gt off, 3)) (ht : (pc : Int) + off = (tgt : Int)) (kt : y < x → am_G X V cs tgt ls st r h) (kf : ¬ y < x → am_G X V cs (pc + 3) ls st r h) : am_G X V cs pc ls (.int y :: .int x :: st) r h := by
  obtain ⟨⟨p, l, e, R⟩, ⟨s, m, args, below, meth, c⟩, ⟨A, Z⟩, ⟨dC, dI, dA⟩, adK⟩ := X
  obtain ⟨⟨hx, hb, hml, hrt, hlk, hnm⟩, ⟨hown, hts, htr, hK⟩, ⟨hA, hE⟩, hDf, hDl, hMC, hMS⟩ := C
  intro H locs lsA hw hl
  exact lv_icmp_gt hx hb hd ht (fun q => kt q H locs lsA hw hl) (fun q => kf q H locs lsA hw hl)
theorem am_icmp_le {x y : Int32} {off : Int} {tgt : Nat} (C : am_C M D MC MS X) (hd : decode M.2.1 pc = .ok (.if_icmp .le off, 3)) (ht : (pc : Int) + off = (tgt : Int)) (kt : x ≤ y → am_G X V cs tgt ls st r h) (kf : ¬ x ≤ y → am_G X V cs (pc + 3) ls st r h) : am_G X V cs pc ls (.int y :: .int x :: st) r h := by
  obtain ⟨⟨p, l, e, R⟩, ⟨s, m, args, below, meth, c⟩, ⟨A, Z⟩, ⟨dC, dI, dA⟩, adK⟩ := X
  obtain ⟨⟨hx, hb, hml, hrt, hlk, hnm⟩, ⟨hown, hts, htr, hK⟩, ⟨hA, hE⟩, hDf, hDl, hMC, hMS⟩ := C
  intro H locs lsA hw hl
  exact lv_icmp_le hx hb hd ht (fun q => kt q H locs lsA hw hl) (fun q => kf q H locs lsA hw hl)
theorem am_ifnonnull {i : Nat} {off : Int} {tgt : Nat} (C : am_C M D MC MS X) (hd : decode M.2.1 pc = .ok (.ifnonnull off, 3)) (ht : (pc : Int) + off = (tgt : Int)) (k : am_G X V cs tgt ls (st) r h) : am_G X V cs pc ls (.ref i :: st) r h := by
  obtain ⟨⟨p, l, e, R⟩, ⟨s, m, args, below, meth, c⟩, ⟨A, Z⟩, ⟨dC, dI, dA⟩, adK⟩ := X
  obtain ⟨⟨hx, hb, hml, hrt, hlk, hnm⟩, ⟨hown, hts, htr, hK⟩, ⟨hA, hE⟩, hDf, hDl, hMC, hMS⟩ := C
  intro H locs lsA hw hl
  exact lv_ifnonnull hx hb hd ht (k H locs lsA hw hl)
theorem am_ifnull {i : Nat} {off : Int} (C : am_C M D MC MS X) (hd : decode M.2.1 pc = .ok (.ifnull off, 3)) (k : am_G X V cs (pc + 3) ls (st) r h) : am_G X V cs pc ls (.ref i :: st) r h := by
  obtain ⟨⟨p, l, e, R⟩, ⟨s, m, args, below, meth, c⟩, ⟨A, Z⟩, ⟨dC, dI, dA⟩, adK⟩ := X
  obtain ⟨⟨hx, hb, hml, hrt, hlk, hnm⟩, ⟨hown, hts, htr, hK⟩, ⟨hA, hE⟩, hDf, hDl, hMC, hMS⟩ := C
  intro H locs lsA hw hl
  exact lv_ifnull hx hb hd (k H locs lsA hw hl)
theorem am_tableIn {dflt lo hi : Int} {offs : Array Int} {len : Nat} {x : Int32} {off : Int} {tgt : Nat} (C : am_C M D MC MS X) (hd : decode M.2.1 pc = .ok (.tableswitch dflt lo hi offs, len)) (h1 : ¬ x.toInt < lo) (h2 : ¬ hi < x.toInt) (ho : offs[(x.toInt - lo).toNat]? = some off) (ht : (pc : Int) + off = (tgt : Int)) (k : am_G X V cs tgt ls st r h) : am_G X V cs pc ls (.int x :: st) r h := by
  obtain ⟨⟨p, l, e, R⟩, ⟨s, m, args, below, meth, c⟩, ⟨A, Z⟩, ⟨dC, dI, dA⟩, adK⟩ := X
  obtain ⟨⟨hx, hb, hml, hrt, hlk, hnm⟩, ⟨hown, hts, htr, hK⟩, ⟨hA, hE⟩, hDf, hDl, hMC, hMS⟩ := C
  intro H locs lsA hw hl
  exact lv_tableIn hx hb hd h1 h2 ho ht (k H locs lsA hw hl)
theorem am_tableOut {dflt lo hi : Int} {offs : Array Int} {len : Nat} {x : Int32} {tgt : Nat} (C : am_C M D MC MS X) (hd : decode M.2.1 pc = .ok (.tableswitch dflt lo hi offs, len)) (h1 : x.toInt < lo ∨ hi < x.toInt) (ht : (pc : Int) + dflt = (tgt : Int)) (k : am_G X V cs tgt ls st r h) : am_G X V cs pc ls (.int x :: st) r h := by
  obtain ⟨⟨p, l, e, R⟩, ⟨s, m, args, below, meth, c⟩, ⟨A, Z⟩, ⟨dC, dI, dA⟩, adK⟩ := X
  obtain ⟨⟨hx, hb, hml, hrt, hlk, hnm⟩, ⟨hown, hts, htr, hK⟩, ⟨hA, hE⟩, hDf, hDl, hMC, hMS⟩ := C
  intro H locs lsA hw hl
  exact lv_tableOut hx hb hd h1 ht (k H locs lsA hw hl)
theorem am_lookup {dflt : Int} {ps : Array (Int × Int)} {len : Nat} {x : Int32} {off : Int} {tgt : Nat} (C : am_C M D MC MS X) (hd : decode M.2.1 pc = .ok (.lookupswitch dflt ps, len)) (hp : (ps.toList.zip (ps.toList.drop 1)).all (fun (a, next) => a.1 < next.1) = true) (ho : Op.lookupswitch.offset ps.toList dflt x.toInt = off) (ht : (pc : Int) + off = (tgt : Int)) (k : am_G X V cs tgt ls st r h) : am_G X V cs pc ls (.int x :: st) r h := by
  obtain ⟨⟨p, l, e, R⟩, ⟨s, m, args, below, meth, c⟩, ⟨A, Z⟩, ⟨dC, dI, dA⟩, adK⟩ := X
  obtain ⟨⟨hx, hb, hml, hrt, hlk, hnm⟩, ⟨hown, hts, htr, hK⟩, ⟨hA, hE⟩, hDf, hDl, hMC, hMS⟩ := C
  intro H locs lsA hw hl
  exact lv_lookup hx hb hd hp ho ht (k H locs lsA hw hl)
end AMR
