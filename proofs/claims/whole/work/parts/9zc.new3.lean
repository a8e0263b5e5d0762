/-! AN ARRAY OF REFERENCES THAT A CONSTRUCTOR MAKES -/
section NEWQ
variable {M : am_M} {D MC MS : Nat} {X : am_X} {cs : Nat × Nat} {pc : Nat} {ls : List (Nat × Value)} {st : List Value} {r : am_R} {h : am_H} {ad : Nat → Nat} {n : Nat} {sh : am_Sh}
theorem nw_RAo {U : State} {a b : ClassId} {c : String} (h1 : va_RA U a (.object c)) (h2 : va_RA U b (.object c)) : a = b := by
  obtain ⟨_, _, _, _, _, e1⟩ := h1
  obtain ⟨_, _, _, _, _, e2⟩ := h2
  exact Option.some.inj (e1.symm.trans e2)
/-- the class of the arrays of scenes stands (no word of a frame: kept beside) -/
def nw_O (X : am_X) : Prop := match X with
  | (_, (s, _), _, _, _) => va_AO "ForgetWar$Scene" s
/-- ANEWARRAY of scenes: all places empty -/
theorem am_newq {ix N : Nat} (C : am_C M D MC MS X) (hd : decode M.2.1 pc = .ok (.anewarray ix, 3)) (hlink : Cond.classLink M.1.cls ix "ForgetWar$Scene" ∈ am_GW) (hov : nw_O X) (hs : sh n = (5, N)) (hr0 : ∀ k, r n k = .null)
    {x : Int32} (hx0 : ¬ x < 0) (hxN : x.toNatClampNeg = N) (hby : N * 4 ≤ 536870912) (hn : n < am_SB) (hr : ∀ i k, r i k ≠ .ref n) (hls : ∀ x ∈ ls, x.2 ≠ .ref n) (hst : ∀ v ∈ st, v ≠ .ref n) (hc : cs.1 + 1 ≤ MC) (hsl : cs.2 + N ≤ MS)
    (kk : ∀ q : Nat, am_G X (nw_ad ad n q, n + 1, sh) (cs.1 + 1, cs.2 + N) (pc + 3) ls (.ref n :: st) r h) : am_G X (ad, n, sh) cs pc ls (.int x :: st) r h := by
  obtain ⟨⟨p, l, e, R⟩, ⟨s, m, args, below, meth, c⟩, ⟨A, Z⟩, ⟨dC, dI, dA⟩, adK⟩ := X
  obtain ⟨⟨hx, hb, hml, hrt, hlk, hnm⟩, ⟨hown, hts, htr, hK⟩, ⟨hA, hE⟩, hDf, hDl, hMC, hMS⟩ := C
  intro H locs lsA hw hl
  have hw0 := hw
  obtain ⟨hP, hDj, hS, hstr⟩ := hw0
  have he1 : am_en dA ad (sh n) (r n) (h n) = .inl (dA 5, N, .inr (.inr (.inr (.inr (fun _ => none))))) := by
    rw [hs, am_en5, show (fun j => am_opt ad (r n j)) = fun _ => none from funext fun j => by rw [hr0]; rfl]
  refine va_newq (D := (dC, dI)) hx hb hown (hts _ (List.mem_cons_of_mem _ hlink)) hov hK hP (am_D hDj) hS hA hx0 hxN hby (by rw [hMC]; exact hc) (by rw [hMS]; exact hsl) hd (fun q cA H1 hK1 hP1 hD1 hS1 => ?_)
  have ec : cA = dA 5 := nw_RAo (hK1.2 6 (cA, .object "ForgetWar$Scene") rfl).2 (hK1.2 5 (dA 5, .object "ForgetWar$Scene") rfl).2
  subst ec
  rw [← he1] at hP1 hD1
  have K := kk q H1 locs lsA (nw_putw hw hn hr hP1 hD1 hS1) (nw_lv hls hl)
  rw [List.map_cons, nw_st hst, show am_cv (nw_ad ad n q, n + 1, sh).1 (.ref n) = .ref q from congrArg Value.ref nw_ad_n] at K
  exact K
end NEWQ
