/-! THE ROWS of the abstract machine that touch cells; the classes' tables -/
section AMF
/-- what the tables say of the class ci -/
def am_tb (ci : Nat) : Prop := vwCl[ci]? = some (am_cl ci) ∧ (∀ w ∈ u_ws (am_cl ci).1 (am_cl ci).2.1 (am_cl ci).2.2, w ∈ am_GW) ∧ (∃ ty : Nat → FieldType, ∀ k, k < (am_cl ci).2.2 → parseFieldDescriptor ((am_cl ci).2.1 k).2.2.1 = some (ty k)) ∧ (∀ a, a < (am_cl ci).2.2 → ∀ b, b < (am_cl ci).2.2 → a ≠ b → ((am_cl ci).2.1 a).2.1 ≠ ((am_cl ci).2.1 b).2.1)
theorem am_uw {C : String} {T : u_T} {N : Nat} (ps : List Nat) (h : u_ws C T N = ps.filterMap (fun i => lw_tbl[i]?)) (g : (u_ws C T N).all goodWord = true) : ∀ w ∈ u_ws C T N, w ∈ am_GW := by
  intro w hw
  refine List.mem_filter.mpr ⟨?_, List.all_eq_true.mp g w hw⟩
  rw [h] at hw
  obtain ⟨i, -, hi⟩ := List.mem_filterMap.mp hw
  exact List.mem_of_getElem? hi
set_option maxRecDepth 20000 in
theorem am_tb0 : am_tb 0 := ⟨rfl, am_uw [564, 566, 568, 570, 572] (by decide +kernel) (by decide +kernel), ⟨tyX0, tyX0_ok⟩, nmX0⟩
set_option maxRecDepth 20000 in
theorem am_tb1 : am_tb 1 := ⟨rfl, am_uw [334, 336, 338, 340, 342, 344, 346, 348, 350] (by decide +kernel) (by decide +kernel), ⟨tyX1, tyX1_ok⟩, nmX1⟩
set_option maxRecDepth 20000 in
theorem am_tb2 : am_tb 2 := ⟨rfl, am_uw [496, 498] (by decide +kernel) (by decide +kernel), ⟨tyX2, tyX2_ok⟩, nmX2⟩
set_option maxRecDepth 20000 in
theorem am_tb3 : am_tb 3 := ⟨rfl, am_uw [282, 284, 286, 288, 290, 292, 294, 296, 298, 300, 302, 304, 306, 308, 310, 312] (by decide +kernel) (by decide +kernel), ⟨tyX3, tyX3_ok⟩, nmX3⟩
set_option maxRecDepth 20000 in
theorem am_tb4 : am_tb 4 := ⟨rfl, am_uw [513, 515] (by decide +kernel) (by decide +kernel), ⟨tyX4, tyX4_ok⟩, nmX4⟩
set_option maxRecDepth 20000 in
theorem am_tb5 : am_tb 5 := ⟨rfl, am_uw [411, 413, 415, 417, 419, 421, 423, 425, 427, 429, 431, 433, 435, 437, 439, 441, 443, 445, 447] (by decide +kernel) (by decide +kernel), ⟨tyX5, tyX5_ok⟩, nmX5⟩
set_option maxRecDepth 20000 in
theorem am_tb6 : am_tb 6 := ⟨rfl, am_uw [528, 530, 532, 534] (by decide +kernel) (by decide +kernel), ⟨tyX6, tyX6_ok⟩, nmX6⟩
set_option maxRecDepth 20000 in
theorem am_tb7 : am_tb 7 := ⟨rfl, am_uw [546, 548, 550] (by decide +kernel) (by decide +kernel), ⟨tyX7, tyX7_ok⟩, nmX7⟩
set_option maxRecDepth 20000 in
theorem am_tb8 : am_tb 8 := ⟨rfl, am_uw [196, 198, 200, 202, 204, 206] (by decide +kernel) (by decide +kernel), ⟨tyX8, tyX8_ok⟩, nmX8⟩
set_option maxRecDepth 20000 in
theorem am_tb9 : am_tb 9 := ⟨rfl, am_uw [479, 481, 483, 485] (by decide +kernel) (by decide +kernel), ⟨tyX9, tyX9_ok⟩, nmX9⟩
set_option maxRecDepth 20000 in
theorem am_tb10 : am_tb 10 := ⟨rfl, am_uw [462, 464, 466] (by decide +kernel) (by decide +kernel), ⟨tyX10, tyX10_ok⟩, nmX10⟩
set_option maxRecDepth 20000 in
theorem am_tb11 : am_tb 11 := ⟨rfl, am_uw [588, 590, 592, 594, 596, 598, 600, 602, 604, 606, 608, 610, 612] (by decide +kernel) (by decide +kernel), ⟨tyX11, tyX11_ok⟩, nmX11⟩
set_option maxRecDepth 20000 in
theorem am_tb12 : am_tb 12 := ⟨rfl, am_uw [1775, 1777, 1779, 1781, 1783, 1785, 1787, 1789, 1791, 1793, 1795, 1797, 1799, 1801, 1803, 1805, 1807, 1809, 1811, 1813, 1815, 1817] (by decide +kernel) (by decide +kernel), ⟨tyX12, tyX12_ok⟩, nmX12⟩
theorem am_tball {ci : Nat} (h : ci < 13) : am_tb ci := by
  rcases (show ci = 0 ∨ ci = 1 ∨ ci = 2 ∨ ci = 3 ∨ ci = 4 ∨ ci = 5 ∨ ci = 6 ∨ ci = 7 ∨ ci = 8 ∨ ci = 9 ∨ ci = 10 ∨ ci = 11 ∨ ci = 12 by omega) with rfl | rfl | rfl | rfl | rfl | rfl | rfl | rfl | rfl | rfl | rfl | rfl | rfl
  · exact am_tb0
  · exact am_tb1
  · exact am_tb2
  · exact am_tb3
  · exact am_tb4
  · exact am_tb5
  · exact am_tb6
  · exact am_tb7
  · exact am_tb8
  · exact am_tb9
  · exact am_tb10
  · exact am_tb11
  · exact am_tb12
/-- the field k of the class ci, by the pool's entry ix of the class own: a number or a reference -/
def am_F (own : String) (ix ci k : Nat) (b : Bool) : Prop := ci < 13 ∧ k < (am_cl ci).2.2 ∧ am_num ((am_cl ci).2.1 k).2.2.1 = b ∧ Cond.fieldLink own ix ((am_cl ci).2.1 k).1 ((am_cl ci).2.1 k).2.1 ((am_cl ci).2.1 k).2.2.1 ∈ am_GW
variable {M : am_M} {D MC MS : Nat} {X : am_X} {V : am_V} {cs : Nat × Nat} {pc : Nat} {ls ls' : List (Nat × Value)} {st : List Value} {r : am_R} {h : am_H}
theorem am_en0 {dA : Nat → ClassId} {ad : Nat → Nat} {ci : Nat} {f : Nat → Value} {g : Nat → Int32} : am_en dA ad (0, ci) f g = .inr (ci, (List.range (am_cl ci).2.2).map (am_fv ad (am_cl ci).2.1 f g)) := rfl
theorem am_en1 {dA : Nat → ClassId} {ad : Nat → Nat} {n : Nat} {f : Nat → Value} {g : Nat → Int32} : am_en dA ad (1, n) f g = .inl (dA 1, n, .inl g) := rfl
theorem am_en2 {dA : Nat → ClassId} {ad : Nat → Nat} {n : Nat} {f : Nat → Value} {g : Nat → Int32} : am_en dA ad (2, n) f g = .inl (dA 2, n, .inl g) := rfl
theorem am_en3 {dA : Nat → ClassId} {ad : Nat → Nat} {n : Nat} {f : Nat → Value} {g : Nat → Int32} : am_en dA ad (3, n) f g = .inl (dA 3, n, .inl g) := rfl
theorem am_en4 {dA : Nat → ClassId} {ad : Nat → Nat} {n : Nat} {f : Nat → Value} {g : Nat → Int32} : am_en dA ad (4, n) f g = .inl (dA 4, n, .inr (.inl fun j => (g j).toInt64)) := rfl
theorem am_en5 {dA : Nat → ClassId} {ad : Nat → Nat} {n : Nat} {f : Nat → Value} {g : Nat → Int32} : am_en dA ad (5, n) f g = .inl (dA 5, n, .inr (.inr (.inr (.inr fun j => am_opt ad (f j))))) := rfl
theorem am_w_at {p : Program} {l : Launch} {e : Env} {R : Room} {s : State} {m : MethodId} {args : Array Value} {below : List Frame} {meth : Method} {c : Code} {A : Nat → Prop} {Z : State → Prop} {dC : Nat → ClassId} {dI : Nat → Nat → Nat} {dA : Nat → ClassId} {adK : Nat → Nat} {H H1 : Heap} {locs locs1 : List Loc} {r' : am_R} {h' : am_H} {i : Nat} {x : va_E}
    (hw : am_w ((p, l, e, R), (s, m, args, below, meth, c), (A, Z), (dC, dI, dA), adK) V r h H locs) (hx : am_en dA V.1 (V.2.2 i) (r' i) (h' i) = x) (ho : ∀ j, j ≠ i → am_en dA V.1 (V.2.2 j) (r' j) (h' j) = am_en dA V.1 (V.2.2 j) (r j) (h j))
    (hP : va_P (dC, dI) vwCl ((am_ws dA V r h).set i (V.1 i, x)) H1) (hS : va_S A s.heap H1 locs1) : am_w ((p, l, e, R), (s, m, args, below, meth, c), (A, Z), (dC, dI, dA), adK) V r' h' H1 locs1 := by
  rw [am_ws_set hx ho] at hP
  exact ⟨hP, hw.2.1, hS, hw.2.2.2⟩
theorem am_fs_set {ad : Nat → Nat} {T : u_T} {N k : Nat} {f f' : Nat → Value} {g g' : Nat → Int32} {v : Value} (hv : am_fv ad T f' g' k = v) (ho : ∀ j, j ≠ k → am_fv ad T f' g' j = am_fv ad T f g j) : (List.range N).map (am_fv ad T f' g') = ((List.range N).map (am_fv ad T f g)).set k v := by
  subst hv
  apply List.ext_getElem?
  intro j
  rw [List.getElem?_set]
  by_cases hj : k = j
  · subst hj
    by_cases hi : k < N
    · simp [hi]
    · simp [hi]
  · by_cases hi : j < N
    · simp [hj, hi, ho j (fun e => hj e.symm)]
    · simp [hj, hi]

theorem am_getI {ix ci k i : Nat} (C : am_C M D MC MS X) (hd : decode M.2.1 pc = .ok (.getfield ix, 3)) (hf : am_F M.1.cls ix ci k true) (hi : i < V.2.1) (hs : V.2.2 i = (0, ci)) (kk : am_G X V cs (pc + 3) ls (.int (h i k) :: st) r h) : am_G X V cs pc ls (.ref i :: st) r h := by
  obtain ⟨⟨p, l, e, R⟩, ⟨s, m, args, below, meth, c⟩, ⟨A, Z⟩, ⟨dC, dI, dA⟩, adK⟩ := X
  obtain ⟨⟨hx, hb, hml, hrt, hlk, hnm⟩, ⟨hown, hts, htr, hK⟩, ⟨hA, hE⟩, hDf, hDl, hMC, hMS⟩ := C
  intro H locs lsA hw hl
  have hw0 := hw
  obtain ⟨hP, hDj, hS, hstr⟩ := hw0
  obtain ⟨hci, hk, hnum, hlink⟩ := hf
  obtain ⟨htc, hin, ⟨ty, hty⟩, hnmd⟩ := am_tball hci
  have he : (am_ws dA V r h)[i]? = some (V.1 i, .inr (ci, (List.range (am_cl ci).2.2).map (am_fv V.1 (am_cl ci).2.1 (r i) (h i)))) := by rw [am_ws_at hi, hs]; rfl
  exact va_get (D := (dC, dI)) (C := (am_cl ci).1) (T := (am_cl ci).2.1) (N := (am_cl ci).2.2) (v := .int (h i k)) hx hb hts (fun w hw => List.mem_cons_of_mem _ (hin w hw)) hown hK hP i he htc k hk (hts _ (List.mem_cons_of_mem _ hlink)) (fun _ h9 => h9) (by simp [hk, am_fv, hnum]) hd (kk H locs lsA hw hl)
theorem am_getR {ix ci k i j : Nat} (C : am_C M D MC MS X) (hd : decode M.2.1 pc = .ok (.getfield ix, 3)) (hf : am_F M.1.cls ix ci k false) (hi : i < V.2.1) (hs : V.2.2 i = (0, ci)) (hr : r i k = .ref j) (kk : am_G X V cs (pc + 3) ls (.ref j :: st) r h) : am_G X V cs pc ls (.ref i :: st) r h := by
  obtain ⟨⟨p, l, e, R⟩, ⟨s, m, args, below, meth, c⟩, ⟨A, Z⟩, ⟨dC, dI, dA⟩, adK⟩ := X
  obtain ⟨⟨hx, hb, hml, hrt, hlk, hnm⟩, ⟨hown, hts, htr, hK⟩, ⟨hA, hE⟩, hDf, hDl, hMC, hMS⟩ := C
  intro H locs lsA hw hl
  have hw0 := hw
  obtain ⟨hP, hDj, hS, hstr⟩ := hw0
  obtain ⟨hci, hk, hnum, hlink⟩ := hf
  obtain ⟨htc, hin, ⟨ty, hty⟩, hnmd⟩ := am_tball hci
  have he : (am_ws dA V r h)[i]? = some (V.1 i, .inr (ci, (List.range (am_cl ci).2.2).map (am_fv V.1 (am_cl ci).2.1 (r i) (h i)))) := by rw [am_ws_at hi, hs]; rfl
  exact va_get (D := (dC, dI)) (C := (am_cl ci).1) (T := (am_cl ci).2.1) (N := (am_cl ci).2.2) (v := .ref (V.1 j)) hx hb hts (fun w hw => List.mem_cons_of_mem _ (hin w hw)) hown hK hP i he htc k hk (hts _ (List.mem_cons_of_mem _ hlink)) (fun _ h9 => h9) (by simp [hk, am_fv, hnum, hr, am_cv]) hd (kk H locs lsA hw hl)
theorem am_putI {ix ci k i : Nat} {x : Int32} (C : am_C M D MC MS X) (hd : decode M.2.1 pc = .ok (.putfield ix, 3)) (hf : am_F M.1.cls ix ci k true) (hi : i < V.2.1) (hs : V.2.2 i = (0, ci)) (hfin : ((am_cl ci).2.1 k).2.2.2 = false) (hde : ((am_cl ci).2.1 k).2.2.1 = "I") (kk : am_G X V cs (pc + 3) ls st r (am_up h i k x)) : am_G X V cs pc ls (.int x :: .ref i :: st) r h := by
  obtain ⟨⟨p, l, e, R⟩, ⟨s, m, args, below, meth, c⟩, ⟨A, Z⟩, ⟨dC, dI, dA⟩, adK⟩ := X
  obtain ⟨⟨hx, hb, hml, hrt, hlk, hnm⟩, ⟨hown, hts, htr, hK⟩, ⟨hA, hE⟩, hDf, hDl, hMC, hMS⟩ := C
  intro H locs lsA hw hl
  have hw0 := hw
  obtain ⟨hP, hDj, hS, hstr⟩ := hw0
  obtain ⟨hci, hk, hnum, hlink⟩ := hf
  obtain ⟨htc, hin, ⟨ty, hty⟩, hnmd⟩ := am_tball hci
  have he : (am_ws dA V r h)[i]? = some (V.1 i, .inr (ci, (List.range (am_cl ci).2.2).map (am_fv V.1 (am_cl ci).2.1 (r i) (h i)))) := by rw [am_ws_at hi, hs]; rfl
  exact va_put (D := (dC, dI)) (ci := ci) (C := (am_cl ci).1) (T := (am_cl ci).2.1) (N := (am_cl ci).2.2) (v := .int x) (ty := .int) hx hb hts (fun w hw => List.mem_cons_of_mem _ (hin w hw)) ty hty hnmd hown hK hP (am_D hDj) hS i he htc k hk (hts _ (List.mem_cons_of_mem _ hlink)) (fun _ h9 => h9) hfin (by rw [hde]; rfl) rfl rfl (by simpa using hk) hd
    (fun H1 locs1 hP1 _ hS1 => kk H1 locs1 lsA (am_w_at hw (by rw [hs, am_en0, am_fs_set (k := k) (v := .int x) (f := r i) (g := h i) (by simp [am_fv, hnum, am_up]) (fun j hj => by simp [am_fv, am_up, hj])]) (fun j hj => by simp [am_up_ne _ _ _ _ _ hj]) hP1 hS1) hl)

theorem am_putZ {ix ci k i : Nat} {x : Int32} (C : am_C M D MC MS X) (hd : decode M.2.1 pc = .ok (.putfield ix, 3)) (hf : am_F M.1.cls ix ci k true) (hi : i < V.2.1) (hs : V.2.2 i = (0, ci)) (hfin : ((am_cl ci).2.1 k).2.2.2 = false) (hde : ((am_cl ci).2.1 k).2.2.1 = "Z") (hz : x = 0 ∨ x = 1) (kk : am_G X V cs (pc + 3) ls st r (am_up h i k x)) : am_G X V cs pc ls (.int x :: .ref i :: st) r h := by
  obtain ⟨⟨p, l, e, R⟩, ⟨s, m, args, below, meth, c⟩, ⟨A, Z⟩, ⟨dC, dI, dA⟩, adK⟩ := X
  obtain ⟨⟨hx, hb, hml, hrt, hlk, hnm⟩, ⟨hown, hts, htr, hK⟩, ⟨hA, hE⟩, hDf, hDl, hMC, hMS⟩ := C
  intro H locs lsA hw hl
  have hw0 := hw
  obtain ⟨hP, hDj, hS, hstr⟩ := hw0
  obtain ⟨hci, hk, hnum, hlink⟩ := hf
  obtain ⟨htc, hin, ⟨ty, hty⟩, hnmd⟩ := am_tball hci
  have he : (am_ws dA V r h)[i]? = some (V.1 i, .inr (ci, (List.range (am_cl ci).2.2).map (am_fv V.1 (am_cl ci).2.1 (r i) (h i)))) := by rw [am_ws_at hi, hs]; rfl
  exact va_put (D := (dC, dI)) (ci := ci) (C := (am_cl ci).1) (T := (am_cl ci).2.1) (N := (am_cl ci).2.2) (v := .int x) (ty := .boolean) hx hb hts (fun w hw => List.mem_cons_of_mem _ (hin w hw)) ty hty hnmd hown hK hP (am_D hDj) hS i he htc k hk (hts _ (List.mem_cons_of_mem _ hlink)) (fun _ h9 => h9) hfin (by rw [hde]; rfl) (by rcases hz with rfl | rfl <;> rfl) (by rcases hz with rfl | rfl <;> rfl) (by simpa using hk) hd
    (fun H1 locs1 hP1 _ hS1 => kk H1 locs1 lsA (am_w_at hw (by rw [hs, am_en0, am_fs_set (k := k) (v := .int x) (f := r i) (g := h i) (by simp [am_fv, hnum, am_up]) (fun j hj => by simp [am_fv, am_up, hj])]) (fun j hj => by simp [am_up_ne _ _ _ _ _ hj]) hP1 hS1) hl)

theorem am_putR {ix ci k i : Nat} {j : Nat} {ft : FieldType} (C : am_C M D MC MS X) (hd : decode M.2.1 pc = .ok (.putfield ix, 3)) (hf : am_F M.1.cls ix ci k false) (hi : i < V.2.1) (hs : V.2.2 i = (0, ci)) (hfin : ((am_cl ci).2.1 k).2.2.2 = false) (hde : parseFieldDescriptor ((am_cl ci).2.1 k).2.2.1 = some ft) (hft : ∀ a : Nat, narrow ft (.ref a) = .ref a ∧ fits ft (.ref a) = true) (kk : am_G X V cs (pc + 3) ls st (am_up r i k (.ref j)) h) : am_G X V cs pc ls (.ref j :: .ref i :: st) r h := by
  obtain ⟨⟨p, l, e, R⟩, ⟨s, m, args, below, meth, c⟩, ⟨A, Z⟩, ⟨dC, dI, dA⟩, adK⟩ := X
  obtain ⟨⟨hx, hb, hml, hrt, hlk, hnm⟩, ⟨hown, hts, htr, hK⟩, ⟨hA, hE⟩, hDf, hDl, hMC, hMS⟩ := C
  intro H locs lsA hw hl
  have hw0 := hw
  obtain ⟨hP, hDj, hS, hstr⟩ := hw0
  obtain ⟨hci, hk, hnum, hlink⟩ := hf
  obtain ⟨htc, hin, ⟨ty, hty⟩, hnmd⟩ := am_tball hci
  have he : (am_ws dA V r h)[i]? = some (V.1 i, .inr (ci, (List.range (am_cl ci).2.2).map (am_fv V.1 (am_cl ci).2.1 (r i) (h i)))) := by rw [am_ws_at hi, hs]; rfl
  exact va_put (D := (dC, dI)) (ci := ci) (C := (am_cl ci).1) (T := (am_cl ci).2.1) (N := (am_cl ci).2.2) (v := .ref (V.1 j)) (ty := ft) hx hb hts (fun w hw => List.mem_cons_of_mem _ (hin w hw)) ty hty hnmd hown hK hP (am_D hDj) hS i he htc k hk (hts _ (List.mem_cons_of_mem _ hlink)) (fun _ h9 => h9) hfin hde (hft _).1 (hft _).2 (by simpa using hk) hd
    (fun H1 locs1 hP1 _ hS1 => kk H1 locs1 lsA (am_w_at hw (by rw [hs, am_en0, am_fs_set (k := k) (v := .ref (V.1 j)) (f := r i) (g := h i) (by simp [am_fv, hnum, am_up, am_cv]) (fun j hj => by simp [am_fv, am_up, hj])]) (fun j hj => by simp [am_up_ne _ _ _ _ _ hj]) hP1 hS1) hl)

theorem am_putRF {ix ci k i : Nat} {j : Nat} {ft : FieldType} (C : am_C M D MC MS X) (hd : decode M.2.1 pc = .ok (.putfield ix, 3)) (hf : am_F M.1.cls ix ci k false) (hi : i < V.2.1) (hs : V.2.2 i = (0, ci)) (hfin : ((am_cl ci).2.1 k).2.2.2 = true) (hini : M.1.name = "<init>") (hdecl : ((am_cl ci).2.1 k).1 = M.1.cls) (hde : parseFieldDescriptor ((am_cl ci).2.1 k).2.2.1 = some ft) (hft : ∀ a : Nat, narrow ft (.ref a) = .ref a ∧ fits ft (.ref a) = true) (kk : am_G X V cs (pc + 3) ls st (am_up r i k (.ref j)) h) : am_G X V cs pc ls (.ref j :: .ref i :: st) r h := by
  obtain ⟨⟨p, l, e, R⟩, ⟨s, m, args, below, meth, c⟩, ⟨A, Z⟩, ⟨dC, dI, dA⟩, adK⟩ := X
  obtain ⟨⟨hx, hb, hml, hrt, hlk, hnm⟩, ⟨hown, hts, htr, hK⟩, ⟨hA, hE⟩, hDf, hDl, hMC, hMS⟩ := C
  intro H locs lsA hw hl
  have hw0 := hw
  obtain ⟨hP, hDj, hS, hstr⟩ := hw0
  obtain ⟨hci, hk, hnum, hlink⟩ := hf
  obtain ⟨htc, hin, ⟨ty, hty⟩, hnmd⟩ := am_tball hci
  have he : (am_ws dA V r h)[i]? = some (V.1 i, .inr (ci, (List.range (am_cl ci).2.2).map (am_fv V.1 (am_cl ci).2.1 (r i) (h i)))) := by rw [am_ws_at hi, hs]; rfl
  exact va_putF (D := (dC, dI)) (ci := ci) (C := (am_cl ci).1) (T := (am_cl ci).2.1) (N := (am_cl ci).2.2) (v := .ref (V.1 j)) (ty := ft) hx hb hts (fun w hw => List.mem_cons_of_mem _ (hin w hw)) ty hty hnmd hown hK hP (am_D hDj) hS i he htc k hk (hts _ (List.mem_cons_of_mem _ hlink)) (fun _ h9 => h9) hfin (hnm.trans hini) hdecl hde (hft _).1 (hft _).2 (by simpa using hk) hd
    (fun H1 locs1 hP1 _ hS1 => kk H1 locs1 lsA (am_w_at hw (by rw [hs, am_en0, am_fs_set (k := k) (v := .ref (V.1 j)) (f := r i) (g := h i) (by simp [am_fv, hnum, am_up, am_cv]) (fun j hj => by simp [am_fv, am_up, hj])]) (fun j hj => by simp [am_up_ne _ _ _ _ _ hj]) hP1 hS1) hl)

theorem am_iaload {n i : Nat} {j : Int32} (C : am_C M D MC MS X) (hd : decode M.2.1 pc = .ok (.iaload, 1)) (hi : i < V.2.1) (hs : V.2.2 i = (1, n)) (hj : vp_in j n) (kk : am_G X V cs (pc + 1) ls (.int (h i j.toNatClampNeg) :: st) r h) : am_G X V cs pc ls (.int j :: .ref i :: st) r h := by
  obtain ⟨⟨p, l, e, R⟩, ⟨s, m, args, below, meth, c⟩, ⟨A, Z⟩, ⟨dC, dI, dA⟩, adK⟩ := X
  obtain ⟨⟨hx, hb, hml, hrt, hlk, hnm⟩, ⟨hown, hts, htr, hK⟩, ⟨hA, hE⟩, hDf, hDl, hMC, hMS⟩ := C
  intro H locs lsA hw hl
  have hw0 := hw
  obtain ⟨hP, hDj, hS, hstr⟩ := hw0
  have he := am_ws_at (dA := dA) (r := r) (h := h) hi
  rw [hs, am_en1] at he
  exact va_iald (D := (dC, dI)) hx hb hK hP i 1 he rfl hj hd (kk H locs lsA hw hl)
theorem am_baload {n i : Nat} {j : Int32} (C : am_C M D MC MS X) (hd : decode M.2.1 pc = .ok (.baload, 1)) (hi : i < V.2.1) (hs : V.2.2 i = (2, n)) (hj : vp_in j n) (kk : am_G X V cs (pc + 1) ls (.int (h i j.toNatClampNeg) :: st) r h) : am_G X V cs pc ls (.int j :: .ref i :: st) r h := by
  obtain ⟨⟨p, l, e, R⟩, ⟨s, m, args, below, meth, c⟩, ⟨A, Z⟩, ⟨dC, dI, dA⟩, adK⟩ := X
  obtain ⟨⟨hx, hb, hml, hrt, hlk, hnm⟩, ⟨hown, hts, htr, hK⟩, ⟨hA, hE⟩, hDf, hDl, hMC, hMS⟩ := C
  intro H locs lsA hw hl
  have hw0 := hw
  obtain ⟨hP, hDj, hS, hstr⟩ := hw0
  have he := am_ws_at (dA := dA) (r := r) (h := h) hi
  rw [hs, am_en2] at he
  exact va_bald (D := (dC, dI)) hx hb hK hP i 2 he rfl hj hd (kk H locs lsA hw hl)
theorem am_zaload {n i : Nat} {j : Int32} (C : am_C M D MC MS X) (hd : decode M.2.1 pc = .ok (.baload, 1)) (hi : i < V.2.1) (hs : V.2.2 i = (3, n)) (hj : vp_in j n) (kk : am_G X V cs (pc + 1) ls (.int (h i j.toNatClampNeg) :: st) r h) : am_G X V cs pc ls (.int j :: .ref i :: st) r h := by
  obtain ⟨⟨p, l, e, R⟩, ⟨s, m, args, below, meth, c⟩, ⟨A, Z⟩, ⟨dC, dI, dA⟩, adK⟩ := X
  obtain ⟨⟨hx, hb, hml, hrt, hlk, hnm⟩, ⟨hown, hts, htr, hK⟩, ⟨hA, hE⟩, hDf, hDl, hMC, hMS⟩ := C
  intro H locs lsA hw hl
  have hw0 := hw
  obtain ⟨hP, hDj, hS, hstr⟩ := hw0
  have he := am_ws_at (dA := dA) (r := r) (h := h) hi
  rw [hs, am_en3] at he
  exact va_zald (D := (dC, dI)) hx hb hK hP i 3 he rfl hj hd (kk H locs lsA hw hl)
theorem am_iastore {n i : Nat} {j x : Int32} (C : am_C M D MC MS X) (hd : decode M.2.1 pc = .ok (.iastore, 1)) (hi : i < V.2.1) (hs : V.2.2 i = (1, n)) (hj : vp_in j n) (kk : am_G X V cs (pc + 1) ls st r (am_up h i j.toNatClampNeg x)) : am_G X V cs pc ls (.int x :: .int j :: .ref i :: st) r h := by
  obtain ⟨⟨p, l, e, R⟩, ⟨s, m, args, below, meth, c⟩, ⟨A, Z⟩, ⟨dC, dI, dA⟩, adK⟩ := X
  obtain ⟨⟨hx, hb, hml, hrt, hlk, hnm⟩, ⟨hown, hts, htr, hK⟩, ⟨hA, hE⟩, hDf, hDl, hMC, hMS⟩ := C
  intro H locs lsA hw hl
  have hw0 := hw
  obtain ⟨hP, hDj, hS, hstr⟩ := hw0
  have he := am_ws_at (dA := dA) (r := r) (h := h) hi
  rw [hs, am_en1] at he
  exact va_iast (D := (dC, dI)) hx hb hK hP (am_D hDj) hS i 1 he rfl hj hd (fun H1 locs1 hP1 _ hS1 => kk H1 locs1 lsA (am_w_at hw (by rw [hs, am_en1, am_up_row]) (fun a ha => by rw [am_up_ne _ _ _ _ _ ha]) hP1 hS1) hl)
theorem am_bastore {n i : Nat} {j x : Int32} (C : am_C M D MC MS X) (hd : decode M.2.1 pc = .ok (.bastore, 1)) (hi : i < V.2.1) (hs : V.2.2 i = (2, n)) (hj : vp_in j n) (kk : am_G X V cs (pc + 1) ls st r (am_up h i j.toNatClampNeg (vp_nar .byte x))) : am_G X V cs pc ls (.int x :: .int j :: .ref i :: st) r h := by
  obtain ⟨⟨p, l, e, R⟩, ⟨s, m, args, below, meth, c⟩, ⟨A, Z⟩, ⟨dC, dI, dA⟩, adK⟩ := X
  obtain ⟨⟨hx, hb, hml, hrt, hlk, hnm⟩, ⟨hown, hts, htr, hK⟩, ⟨hA, hE⟩, hDf, hDl, hMC, hMS⟩ := C
  intro H locs lsA hw hl
  have hw0 := hw
  obtain ⟨hP, hDj, hS, hstr⟩ := hw0
  have he := am_ws_at (dA := dA) (r := r) (h := h) hi
  rw [hs, am_en2] at he
  exact va_bast (D := (dC, dI)) hx hb hK hP (am_D hDj) hS i 2 he rfl hj hd (fun H1 locs1 hP1 _ hS1 => kk H1 locs1 lsA (am_w_at hw (by rw [hs, am_en2, am_up_row]) (fun a ha => by rw [am_up_ne _ _ _ _ _ ha]) hP1 hS1) hl)
theorem am_zastore {n i : Nat} {j x : Int32} (C : am_C M D MC MS X) (hd : decode M.2.1 pc = .ok (.bastore, 1)) (hi : i < V.2.1) (hs : V.2.2 i = (3, n)) (hj : vp_in j n) (kk : am_G X V cs (pc + 1) ls st r (am_up h i j.toNatClampNeg (vp_nar .boolean x))) : am_G X V cs pc ls (.int x :: .int j :: .ref i :: st) r h := by
  obtain ⟨⟨p, l, e, R⟩, ⟨s, m, args, below, meth, c⟩, ⟨A, Z⟩, ⟨dC, dI, dA⟩, adK⟩ := X
  obtain ⟨⟨hx, hb, hml, hrt, hlk, hnm⟩, ⟨hown, hts, htr, hK⟩, ⟨hA, hE⟩, hDf, hDl, hMC, hMS⟩ := C
  intro H locs lsA hw hl
  have hw0 := hw
  obtain ⟨hP, hDj, hS, hstr⟩ := hw0
  have he := am_ws_at (dA := dA) (r := r) (h := h) hi
  rw [hs, am_en3] at he
  exact va_zast (D := (dC, dI)) hx hb hK hP (am_D hDj) hS i 3 he rfl hj hd (fun H1 locs1 hP1 _ hS1 => kk H1 locs1 lsA (am_w_at hw (by rw [hs, am_en3, am_up_row]) (fun a ha => by rw [am_up_ne _ _ _ _ _ ha]) hP1 hS1) hl)
theorem am_laload {n i : Nat} {j : Int32} (C : am_C M D MC MS X) (hd : decode M.2.1 pc = .ok (.laload, 1)) (hi : i < V.2.1) (hs : V.2.2 i = (4, n)) (hj : vp_in j n) (kk : am_G X V cs (pc + 1) ls (.long (h i j.toNatClampNeg).toInt64 :: st) r h) : am_G X V cs pc ls (.int j :: .ref i :: st) r h := by
  obtain ⟨⟨p, l, e, R⟩, ⟨s, m, args, below, meth, c⟩, ⟨A, Z⟩, ⟨dC, dI, dA⟩, adK⟩ := X
  obtain ⟨⟨hx, hb, hml, hrt, hlk, hnm⟩, ⟨hown, hts, htr, hK⟩, ⟨hA, hE⟩, hDf, hDl, hMC, hMS⟩ := C
  intro H locs lsA hw hl
  have hw0 := hw
  obtain ⟨hP, hDj, hS, hstr⟩ := hw0
  have he := am_ws_at (dA := dA) (r := r) (h := h) hi
  rw [hs, am_en4] at he
  exact va_lald (D := (dC, dI)) hx hb hK hP i 4 he rfl hj hd (kk H locs lsA hw hl)
theorem am_lastore {n i : Nat} {j x : Int32} (C : am_C M D MC MS X) (hd : decode M.2.1 pc = .ok (.lastore, 1)) (hi : i < V.2.1) (hs : V.2.2 i = (4, n)) (hj : vp_in j n) (kk : am_G X V cs (pc + 1) ls st r (am_up h i j.toNatClampNeg x)) : am_G X V cs pc ls (.long x.toInt64 :: .int j :: .ref i :: st) r h := by
  obtain ⟨⟨p, l, e, R⟩, ⟨s, m, args, below, meth, c⟩, ⟨A, Z⟩, ⟨dC, dI, dA⟩, adK⟩ := X
  obtain ⟨⟨hx, hb, hml, hrt, hlk, hnm⟩, ⟨hown, hts, htr, hK⟩, ⟨hA, hE⟩, hDf, hDl, hMC, hMS⟩ := C
  intro H locs lsA hw hl
  have hw0 := hw
  obtain ⟨hP, hDj, hS, hstr⟩ := hw0
  have he := am_ws_at (dA := dA) (r := r) (h := h) hi
  rw [hs, am_en4] at he
  exact va_last (D := (dC, dI)) hx hb hK hP (am_D hDj) hS i 4 he rfl hj hd (fun H1 locs1 hP1 _ hS1 => kk H1 locs1 lsA (am_w_at hw (by rw [hs, am_en4]; exact congrArg (fun z => (Sum.inl (dA 4, n, Sum.inr (Sum.inl z)) : va_E)) (funext fun b => by by_cases hb : b = j.toNatClampNeg <;> simp [am_up, vp_updL, hb])) (fun a ha => by rw [am_up_ne _ _ _ _ _ ha]) hP1 hS1) hl)
theorem am_aaload {n i q : Nat} {j : Int32} (C : am_C M D MC MS X) (hd : decode M.2.1 pc = .ok (.aaload, 1)) (hi : i < V.2.1) (hs : V.2.2 i = (5, n)) (hj : vp_in j n) (hr : r i j.toNatClampNeg = .ref q) (kk : am_G X V cs (pc + 1) ls (.ref q :: st) r h) : am_G X V cs pc ls (.int j :: .ref i :: st) r h := by
  obtain ⟨⟨p, l, e, R⟩, ⟨s, m, args, below, meth, c⟩, ⟨A, Z⟩, ⟨dC, dI, dA⟩, adK⟩ := X
  obtain ⟨⟨hx, hb, hml, hrt, hlk, hnm⟩, ⟨hown, hts, htr, hK⟩, ⟨hA, hE⟩, hDf, hDl, hMC, hMS⟩ := C
  intro H locs lsA hw hl
  have hw0 := hw
  obtain ⟨hP, hDj, hS, hstr⟩ := hw0
  have he := am_ws_at (dA := dA) (r := r) (h := h) hi
  rw [hs, am_en5] at he
  refine va_aldq (D := (dC, dI)) hx hb hK hP i 5 he rfl hj hd ?_
  rw [hr]
  exact kk H locs lsA hw hl
theorem am_aastore {n i q : Nat} {j : Int32} (C : am_C M D MC MS X) (hd : decode M.2.1 pc = .ok (.aastore, 1)) (hi : i < V.2.1) (hs : V.2.2 i = (5, n)) (hj : vp_in j n) (hq : q < V.2.1) (hsq : V.2.2 q = (0, 5)) (kk : am_G X V cs (pc + 1) ls st (am_up r i j.toNatClampNeg (.ref q)) h) : am_G X V cs pc ls (.ref q :: .int j :: .ref i :: st) r h := by
  obtain ⟨⟨p, l, e, R⟩, ⟨s, m, args, below, meth, c⟩, ⟨A, Z⟩, ⟨dC, dI, dA⟩, adK⟩ := X
  obtain ⟨⟨hx, hb, hml, hrt, hlk, hnm⟩, ⟨hown, hts, htr, hK⟩, ⟨hA, hE⟩, hDf, hDl, hMC, hMS⟩ := C
  intro H locs lsA hw hl
  have hw0 := hw
  obtain ⟨hP, hDj, hS, hstr⟩ := hw0
  have he := am_ws_at (dA := dA) (r := r) (h := h) hi
  rw [hs, am_en5] at he
  have hq2 := am_ws_at (dA := dA) (r := r) (h := h) hq
  rw [hsq, am_en0] at hq2
  exact va_astq (D := (dC, dI)) hx hb hK hP (am_D hDj) hS i 5 q 5 he rfl hq2 rfl hj hd (fun H1 locs1 hP1 _ hS1 => kk H1 locs1 lsA (am_w_at hw (by rw [hs, am_en5]; exact congrArg (fun z => (Sum.inl (dA 5, n, Sum.inr (Sum.inr (Sum.inr (Sum.inr z)))) : va_E)) (funext fun b => by by_cases hb : b = j.toNatClampNeg <;> simp [am_up, va_up, hb, am_opt])) (fun a ha => by rw [am_up_ne _ _ _ _ _ ha]) hP1 hS1) hl)
theorem am_len1 {n i : Nat} {v : Int32} (C : am_C M D MC MS X) (hd : decode M.2.1 pc = .ok (.arraylength, 1)) (hi : i < V.2.1) (hs : V.2.2 i = (1, n)) (hv : Int32.ofNat n = v) (kk : am_G X V cs (pc + 1) ls (.int v :: st) r h) : am_G X V cs pc ls (.ref i :: st) r h := by
  obtain ⟨⟨p, l, e, R⟩, ⟨s, m, args, below, meth, c⟩, ⟨A, Z⟩, ⟨dC, dI, dA⟩, adK⟩ := X
  obtain ⟨⟨hx, hb, hml, hrt, hlk, hnm⟩, ⟨hown, hts, htr, hK⟩, ⟨hA, hE⟩, hDf, hDl, hMC, hMS⟩ := C
  intro H locs lsA hw hl
  have hw0 := hw
  obtain ⟨hP, hDj, hS, hstr⟩ := hw0
  have he := am_ws_at (dA := dA) (r := r) (h := h) hi
  rw [hs, am_en1] at he
  exact va_alen (D := (dC, dI)) hx hb hK hP i 1 he rfl hv hd (kk H locs lsA hw hl)
theorem am_len2 {n i : Nat} {v : Int32} (C : am_C M D MC MS X) (hd : decode M.2.1 pc = .ok (.arraylength, 1)) (hi : i < V.2.1) (hs : V.2.2 i = (2, n)) (hv : Int32.ofNat n = v) (kk : am_G X V cs (pc + 1) ls (.int v :: st) r h) : am_G X V cs pc ls (.ref i :: st) r h := by
  obtain ⟨⟨p, l, e, R⟩, ⟨s, m, args, below, meth, c⟩, ⟨A, Z⟩, ⟨dC, dI, dA⟩, adK⟩ := X
  obtain ⟨⟨hx, hb, hml, hrt, hlk, hnm⟩, ⟨hown, hts, htr, hK⟩, ⟨hA, hE⟩, hDf, hDl, hMC, hMS⟩ := C
  intro H locs lsA hw hl
  have hw0 := hw
  obtain ⟨hP, hDj, hS, hstr⟩ := hw0
  have he := am_ws_at (dA := dA) (r := r) (h := h) hi
  rw [hs, am_en2] at he
  exact va_alen (D := (dC, dI)) hx hb hK hP i 2 he rfl hv hd (kk H locs lsA hw hl)
theorem am_len3 {n i : Nat} {v : Int32} (C : am_C M D MC MS X) (hd : decode M.2.1 pc = .ok (.arraylength, 1)) (hi : i < V.2.1) (hs : V.2.2 i = (3, n)) (hv : Int32.ofNat n = v) (kk : am_G X V cs (pc + 1) ls (.int v :: st) r h) : am_G X V cs pc ls (.ref i :: st) r h := by
  obtain ⟨⟨p, l, e, R⟩, ⟨s, m, args, below, meth, c⟩, ⟨A, Z⟩, ⟨dC, dI, dA⟩, adK⟩ := X
  obtain ⟨⟨hx, hb, hml, hrt, hlk, hnm⟩, ⟨hown, hts, htr, hK⟩, ⟨hA, hE⟩, hDf, hDl, hMC, hMS⟩ := C
  intro H locs lsA hw hl
  have hw0 := hw
  obtain ⟨hP, hDj, hS, hstr⟩ := hw0
  have he := am_ws_at (dA := dA) (r := r) (h := h) hi
  rw [hs, am_en3] at he
  exact va_alen (D := (dC, dI)) hx hb hK hP i 3 he rfl hv hd (kk H locs lsA hw hl)
theorem am_len5 {n i : Nat} {v : Int32} (C : am_C M D MC MS X) (hd : decode M.2.1 pc = .ok (.arraylength, 1)) (hi : i < V.2.1) (hs : V.2.2 i = (5, n)) (hv : Int32.ofNat n = v) (kk : am_G X V cs (pc + 1) ls (.int v :: st) r h) : am_G X V cs pc ls (.ref i :: st) r h := by
  obtain ⟨⟨p, l, e, R⟩, ⟨s, m, args, below, meth, c⟩, ⟨A, Z⟩, ⟨dC, dI, dA⟩, adK⟩ := X
  obtain ⟨⟨hx, hb, hml, hrt, hlk, hnm⟩, ⟨hown, hts, htr, hK⟩, ⟨hA, hE⟩, hDf, hDl, hMC, hMS⟩ := C
  intro H locs lsA hw hl
  have hw0 := hw
  obtain ⟨hP, hDj, hS, hstr⟩ := hw0
  have he := am_ws_at (dA := dA) (r := r) (h := h) hi
  rw [hs, am_en5] at he
  exact va_alen (D := (dC, dI)) hx hb hK hP i 5 he rfl hv hd (kk H locs lsA hw hl)
end AMF
