/-! WHAT A NEW CELL OF EACH CLASS HOLDS -/
section NEWD
def nw_deb (ci : Nat) : Bool := (List.range (am_cl ci).2.2).all fun j => match parseFieldDescriptor ((am_cl ci).2.1 j).2.2.1 with
  | some .int => am_num ((am_cl ci).2.1 j).2.2.1
  | some .boolean => am_num ((am_cl ci).2.1 j).2.2.1
  | some (.object _) => !am_num ((am_cl ci).2.1 j).2.2.1
  | some (.array _) => !am_num ((am_cl ci).2.1 j).2.2.1
  | _ => false
theorem nw_de_of {ci : Nat} (h : nw_deb ci = true) : nw_de ci := by
  intro j hj t ht
  have h1 := List.all_eq_true.mp h j (List.mem_range.mpr hj)
  rw [ht] at h1
  cases t <;> first | (have h2 : am_num ((am_cl ci).2.1 j).2.2.1 = true := h1; rw [h2]; rfl) | (have h2 : (!am_num ((am_cl ci).2.1 j).2.2.1) = true := h1; rw [Bool.not_eq_true'] at h2; rw [h2]; rfl) | exact (Bool.false_ne_true h1).elim
theorem nw_de0 : nw_de 0 := nw_de_of (by decide +kernel)
theorem nw_de1 : nw_de 1 := nw_de_of (by decide +kernel)
theorem nw_de2 : nw_de 2 := nw_de_of (by decide +kernel)
theorem nw_de3 : nw_de 3 := nw_de_of (by decide +kernel)
theorem nw_de4 : nw_de 4 := nw_de_of (by decide +kernel)
theorem nw_de5 : nw_de 5 := nw_de_of (by decide +kernel)
theorem nw_de6 : nw_de 6 := nw_de_of (by decide +kernel)
theorem nw_de7 : nw_de 7 := nw_de_of (by decide +kernel)
theorem nw_de8 : nw_de 8 := nw_de_of (by decide +kernel)
theorem nw_de9 : nw_de 9 := nw_de_of (by decide +kernel)
theorem nw_de10 : nw_de 10 := nw_de_of (by decide +kernel)
theorem nw_de11 : nw_de 11 := nw_de_of (by decide +kernel)
theorem nw_de12 : nw_de 12 := nw_de_of (by decide +kernel)
end NEWD
