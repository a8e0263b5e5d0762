/-! rows of the heap; numbers of the JDK's own static methods -/
section AMP
/-- rows of the heap -/
def am_row (f : am_H) (i : Nat) (g : Nat → Int32) : am_H := fun a => if a = i then g else f a
theorem am_up_rw (f : am_H) (i k : Nat) (v : Int32) : am_up f i k v = am_row f i (upd (f i) k v) := by
  funext a b
  by_cases ha : a = i
  · subst ha; by_cases hb : b = k <;> simp [am_up, am_row, upd, hb]
  · simp [am_up, am_row, ha]
theorem am_row_id (f : am_H) (i : Nat) : am_row f i (f i) = f := by
  funext a
  by_cases ha : a = i
  · subst ha; simp [am_row]
  · simp [am_row, ha]
theorem am_row_at (f : am_H) (i : Nat) (g : Nat → Int32) : am_row f i g i = g := by simp [am_row]
theorem am_row_ne (f : am_H) (i : Nat) (g : Nat → Int32) {a : Nat} (h : a ≠ i) : am_row f i g a = f a := by simp [am_row, h]
theorem am_row_s0 {f : am_H} {i : Nat} {g g' : Nat → Int32} : am_row (am_row f i g) i g' = am_row f i g' := by
  funext a
  by_cases ha : a = i <;> simp [am_row, ha]
theorem am_row_c {f : am_H} {i j : Nat} {g g' : Nat → Int32} (h : i ≠ j) : am_row (am_row f i g) j g' = am_row (am_row f j g') i g := by
  funext a
  by_cases ha : a = i
  · subst ha; simp [am_row, h]
  · simp [am_row, ha]
theorem am_row_s1 {f : am_H} {i j : Nat} {g g' e : Nat → Int32} (h : j ≠ i) : am_row (am_row (am_row f i g) j e) i g' = am_row (am_row f i g') j e := by rw [am_row_c h, am_row_s0]
theorem am_row_s2 {f : am_H} {i j k : Nat} {g g' e e2 : Nat → Int32} (h : j ≠ i) (h2 : k ≠ i) : am_row (am_row (am_row (am_row f i g) j e) k e2) i g' = am_row (am_row (am_row f i g') j e) k e2 := by rw [am_row_c h2, am_row_s1 h]
theorem am_row_s3 {f : am_H} {i j k l : Nat} {g g' e e2 e3 : Nat → Int32} (h : j ≠ i) (h2 : k ≠ i) (h3 : l ≠ i) : am_row (am_row (am_row (am_row (am_row f i g) j e) k e2) l e3) i g' = am_row (am_row (am_row (am_row f i g') j e) k e2) l e3 := by rw [am_row_c h3, am_row_s2 h h2]
theorem am_bnar (b : Bool) : vp_nar .boolean (am_b b) = am_b b := by cases b <;> rfl
variable {M : am_M} {D MC MS : Nat} {X : am_X} {V : am_V} {cs : Nat × Nat} {pc : Nat} {ls ls' : List (Nat × Value)} {st st0 : List Value} {r r2 : am_R} {h h2 : am_H}
theorem am_zastoreB {n i : Nat} {j : Int32} {b : Bool} (C : am_C M D MC MS X) (hd : decode M.2.1 pc = .ok (.bastore, 1)) (hi : i < V.2.1) (hs : V.2.2 i = (3, n)) (hj : vp_in j n) (kk : am_G X V cs (pc + 1) ls st r (am_up h i j.toNatClampNeg (am_b b))) : am_G X V cs pc ls (.int (am_b b) :: .int j :: .ref i :: st) r h :=
  am_zastore C hd hi hs hj (by rw [am_bnar]; exact kk)
end AMP
