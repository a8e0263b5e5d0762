/-! ARRAYS THAT A CONSTRUCTOR MAKES -/
section NEWA
variable {M : am_M} {D MC MS : Nat} {X : am_X} {cs : Nat × Nat} {pc : Nat} {ls : List (Nat × Value)} {st : List Value} {r : am_R} {h : am_H} {ad : Nat → Nat} {n : Nat} {sh : am_Sh}
theorem nw_RA {U : State} {a b : ClassId} {at1 : ArrayType} (h1 : va_RA U a (newarray.typeOf at1)) (h2 : va_RA U b (newarray.typeOf at1)) : a = b := by
  cases at1 <;> exact Option.some.inj ((show _ = some a from h1).symm.trans h2)
theorem nw_cA {s : State} {dC : Nat → ClassId} {dI : Nat → Nat → Nat} {dA : Nat → ClassId} {cA : ClassId} {at1 : ArrayType} {t : Nat} (ht : (am_ty dA)[t]? = some (dA t, newarray.typeOf at1)) (hK : va_K (dC, dI) vwCl (am_ty dA ++ [(cA, newarray.typeOf at1)]) s) : cA = dA t := by
  have h1 := (hK.2 t (dA t, newarray.typeOf at1) (by rw [List.getElem?_append_left ((List.getElem?_eq_some_iff.mp ht).1)]; exact ht)).2
  have h2 := (hK.2 6 (cA, newarray.typeOf at1) rfl).2
  exact nw_RA h2 h1
theorem nw_putw {p : Program} {l : Launch} {e : Env} {R : Room} {s : State} {m : MethodId} {args : Array Value} {below : List Frame} {meth : Method} {c : Code} {A : Nat → Prop} {Z : State → Prop} {dC : Nat → ClassId} {dI : Nat → Nat → Nat} {dA : Nat → ClassId} {adK : Nat → Nat} {H H1 : Heap} {locs : List Loc} {q : Nat}
    (hw : am_w ((p, l, e, R), (s, m, args, below, meth, c), (A, Z), (dC, dI, dA), adK) (ad, n, sh) r h H locs) (hn : n < am_SB) (hr : ∀ i k, r i k ≠ .ref n)
    (hP1 : va_P (dC, dI) vwCl (am_ws dA (ad, n, sh) r h ++ [(q, am_en dA ad (sh n) (r n) (h n))]) H1) (hD1 : va_D A (am_ws dA (ad, n, sh) r h ++ [(q, am_en dA ad (sh n) (r n) (h n))])) (hS1 : va_S A s.heap H1 locs) : am_w ((p, l, e, R), (s, m, args, below, meth, c), (A, Z), (dC, dI, dA), adK) (nw_ad ad n q, n + 1, sh) r h H1 locs := by
  have hP2 := hP1
  rw [← nw_ws hr] at hP2
  refine ⟨hP2, nw_dj hw.2.1 hD1, hS1, fun k hk => ?_⟩
  show nw_ad ad n q (am_SB + k) = adK k
  rw [nw_ad_o (by omega)]
  exact hw.2.2.2 k hk
/-- NEWARRAY: an array of a kind t (1 int, 2 byte, 3 boolean, 4 long) gets the number n -/
theorem am_newa {at1 : ArrayType} {t N : Nat} (C : am_C M D MC MS X) (hd : decode M.2.1 pc = .ok (.newarray at1, 2)) (ht : ∀ dA : Nat → ClassId, (am_ty dA)[t]? = some (dA t, newarray.typeOf at1)) (harr : Cond.arrayClass (newarray.typeOf at1) ∈ am_GW)
    (hen : ∀ dA : Nat → ClassId, ∃ a0 : vp_A, am_en dA ad (sh n) (r n) (h n) = .inl (dA t, a0) ∧ ∀ cA : ClassId, vp_cell cA a0 = arrV cA N (fun _ => defaultValue (newarray.typeOf at1)))
    {x : Int32} (hx0 : ¬ x < 0) (hxN : x.toNatClampNeg = N) (hby : N * componentBytes (newarray.typeOf at1) ≤ 536870912) (hn : n < am_SB) (hr : ∀ i k, r i k ≠ .ref n) (hls : ∀ x ∈ ls, x.2 ≠ .ref n) (hst : ∀ v ∈ st, v ≠ .ref n) (hc : cs.1 + 1 ≤ MC) (hsl : cs.2 + N ≤ MS)
    (kk : ∀ q : Nat, am_G X (nw_ad ad n q, n + 1, sh) (cs.1 + 1, cs.2 + N) (pc + 2) ls (.ref n :: st) r h) : am_G X (ad, n, sh) cs pc ls (.int x :: st) r h := by
  obtain ⟨⟨p, l, e, R⟩, ⟨s, m, args, below, meth, c⟩, ⟨A, Z⟩, ⟨dC, dI, dA⟩, adK⟩ := X
  obtain ⟨⟨hx, hb, hml, hrt, hlk, hnm⟩, ⟨hown, hts, htr, hK⟩, ⟨hA, hE⟩, hDf, hDl, hMC, hMS⟩ := C
  intro H locs lsA hw hl
  have hw0 := hw
  obtain ⟨hP, hDj, hS, hstr⟩ := hw0
  obtain ⟨a0, he1, he2⟩ := hen dA
  refine va_newa (D := (dC, dI)) (a0 := a0) hx hb (hts _ (List.mem_cons_of_mem _ harr)) rfl hK hP (am_D hDj) hS hA he2 hx0 hxN hby (by rw [hMC]; exact hc) (by rw [hMS]; exact hsl) hd (fun q cA H1 hK1 hP1 hD1 hS1 => ?_)
  have ec : cA = dA t := nw_cA (ht dA) hK1
  subst ec
  rw [← he1] at hP1 hD1
  have K := kk q H1 locs lsA (nw_putw hw hn hr hP1 hD1 hS1) (nw_lv hls hl)
  rw [List.map_cons, nw_st hst, show am_cv (nw_ad ad n q, n + 1, sh).1 (.ref n) = .ref q from congrArg Value.ref nw_ad_n] at K
  exact K
theorem nw_en1 {N : Nat} (hs : sh n = (1, N)) (hh : ∀ k, h n k = 0) (dA : Nat → ClassId) : ∃ a0 : vp_A, am_en dA ad (sh n) (r n) (h n) = .inl (dA 1, a0) ∧ ∀ cA : ClassId, vp_cell cA a0 = arrV cA N (fun _ => defaultValue (newarray.typeOf .int)) := by
  rw [hs]
  refine ⟨_, am_en1, fun cA => ?_⟩
  rw [vp_cell_i]
  congr 1
  funext k
  rw [hh]
  rfl
theorem nw_en2 {N : Nat} (hs : sh n = (2, N)) (hh : ∀ k, h n k = 0) (dA : Nat → ClassId) : ∃ a0 : vp_A, am_en dA ad (sh n) (r n) (h n) = .inl (dA 2, a0) ∧ ∀ cA : ClassId, vp_cell cA a0 = arrV cA N (fun _ => defaultValue (newarray.typeOf .byte)) := by
  rw [hs]
  refine ⟨_, am_en2, fun cA => ?_⟩
  rw [vp_cell_i]
  congr 1
  funext k
  rw [hh]
  rfl
theorem nw_en3 {N : Nat} (hs : sh n = (3, N)) (hh : ∀ k, h n k = 0) (dA : Nat → ClassId) : ∃ a0 : vp_A, am_en dA ad (sh n) (r n) (h n) = .inl (dA 3, a0) ∧ ∀ cA : ClassId, vp_cell cA a0 = arrV cA N (fun _ => defaultValue (newarray.typeOf .boolean)) := by
  rw [hs]
  refine ⟨_, am_en3, fun cA => ?_⟩
  rw [vp_cell_i]
  congr 1
  funext k
  rw [hh]
  rfl
theorem nw_en4 {N : Nat} (hs : sh n = (4, N)) (hh : ∀ k, h n k = 0) (dA : Nat → ClassId) : ∃ a0 : vp_A, am_en dA ad (sh n) (r n) (h n) = .inl (dA 4, a0) ∧ ∀ cA : ClassId, vp_cell cA a0 = arrV cA N (fun _ => defaultValue (newarray.typeOf .long)) := by
  rw [hs]
  refine ⟨_, am_en4, fun cA => ?_⟩
  rw [vp_cell_l]
  congr 1
  funext k
  rw [hh]
  rfl
end NEWA
