/-! THE CONSTRUCTOR OF java.lang.Object -/
section NEWO
variable {M : am_M} {D MC MS : Nat} {X : am_X} {V : am_V} {cs : Nat × Nat} {pc : Nat} {ls : List (Nat × Value)} {st : List Value} {r : am_R} {h : am_H}
theorem nw_w1 : Cond.instanceMethod Lib.objectInit ∈ am_GW := am_mem 174 (by decide +kernel) rfl
theorem nw_w2 : Cond.code Lib.objectInit ⟨#[0xb1]⟩ 1 none ∈ am_GW := am_mem 175 (by decide +kernel) rfl
theorem am_objInit {ix b : Nat} (C : am_C M D MC MS X) (hd : decode M.2.1 pc = .ok (.invokespecial ix, 3)) (hl : Cond.methodLink M.1.cls ix Lib.objectInit ∈ am_GW) (hD : 1 ≤ D) (h8 : (st.map fun v => v.category).sum ≤ 8) (kk : am_G X V cs (pc + 3) ls st r h) : am_G X V cs pc ls (.ref b :: st) r h := by
  obtain ⟨⟨p, l, e, R⟩, ⟨s, m, args, below, meth, c⟩, ⟨A, Z⟩, ⟨dC, dI, dA⟩, adK⟩ := X
  obtain ⟨⟨hx, hb9, hml, hrt, hlk, hnm⟩, ⟨hown, hts, htr, hK⟩, ⟨hA, hE⟩, hDf, hDl, hMC, hMS⟩ := C
  intro H locs lsA hw hloc
  have good : ∀ w ∈ am_GW, w.before args s = true := fun w h => hts w (List.mem_cons_of_mem _ h)
  have e8 : ((st.map (am_cv V.1)).map fun v => v.category).sum ≤ 8 := by rw [am_cats]; exact h8
  refine W.objInit hx hb9 hown (good _ hl) (good _ nw_w1) (good _ nw_w2) rfl hloc.1 rfl hd (by omega) ?_ ?_
  · have e0 : (F0 m pc lsA ((Value.ref b :: st).map (am_cv V.1))).monitorRoom = 0 := rfl
    rw [e0]
    omega
  · exact kk H locs lsA hw hloc
end NEWO
