/-! CELLS THAT A CONSTRUCTOR MAKES: the heap of numbered cells grows by one -/
section NEW
variable {M : am_M} {D MC MS : Nat} {X : am_X} {cs : Nat × Nat} {pc : Nat} {ls : List (Nat × Value)} {st : List Value} {r : am_R} {h : am_H} {ad : Nat → Nat} {n : Nat} {sh : am_Sh}
/-- the addresses with one more -/
def nw_ad (ad : Nat → Nat) (n q : Nat) : Nat → Nat := fun i => if i = n then q else ad i
theorem nw_ad_n {q : Nat} : nw_ad ad n q n = q := by simp [nw_ad]
theorem nw_ad_o {q i : Nat} (hi : i ≠ n) : nw_ad ad n q i = ad i := by simp [nw_ad, hi]
theorem nw_cv {q : Nat} {v : Value} (hv : v ≠ .ref n) : am_cv (nw_ad ad n q) v = am_cv ad v := by
  cases v with
  | ref i => exact congrArg Value.ref (nw_ad_o fun e => hv (e ▸ rfl))
  | _ => rfl
theorem nw_opt {q : Nat} {v : Value} (hv : v ≠ .ref n) : am_opt (nw_ad ad n q) v = am_opt ad v := by
  cases v with
  | ref i => exact congrArg some (nw_ad_o fun e => hv (e ▸ rfl))
  | _ => rfl
theorem nw_en {dA : Nat → ClassId} {q : Nat} {t : Nat × Nat} {f : Nat → Value} {g : Nat → Int32} (hf : ∀ k, f k ≠ .ref n) : am_en dA (nw_ad ad n q) t f g = am_en dA ad t f g := by
  have e1 : ∀ T : u_T, am_fv (nw_ad ad n q) T f g = am_fv ad T f g := by
    intro T
    funext k
    show (bif _ then _ else _) = (bif _ then _ else _)
    rw [nw_cv (hf k)]
  have e2 : (fun j => am_opt (nw_ad ad n q) (f j)) = fun j => am_opt ad (f j) := by
    funext j
    exact nw_opt (hf j)
  show (if _ then _ else _) = (if _ then _ else _)
  rw [e1, e2]
theorem nw_ws {dA : Nat → ClassId} {q : Nat} (hr : ∀ i k, r i k ≠ .ref n) : am_ws dA (nw_ad ad n q, n + 1, sh) r h = am_ws dA (ad, n, sh) r h ++ [(q, am_en dA ad (sh n) (r n) (h n))] := by
  show (List.range (n + 1)).map _ = (List.range n).map _ ++ _
  rw [List.range_succ, List.map_append]
  congr 1
  · refine List.map_congr_left fun i hi => ?_
    have hi2 : i < n := List.mem_range.mp hi
    show (nw_ad ad n q i, am_en dA (nw_ad ad n q) (sh i) (r i) (h i)) = (ad i, am_en dA ad (sh i) (r i) (h i))
    rw [nw_ad_o (Nat.ne_of_lt hi2), nw_en (hr i)]
  · show [(nw_ad ad n q n, am_en dA (nw_ad ad n q) (sh n) (r n) (h n))] = _
    rw [nw_ad_n, nw_en (hr n)]
theorem nw_lv {q : Nat} {lsA : Array Slot} {m : Nat} (hls : ∀ x ∈ ls, x.2 ≠ .ref n) (hl : lv_has lsA m (ls.map (am_cvp ad))) : lv_has lsA m (ls.map (am_cvp (nw_ad ad n q))) := by
  have e : ls.map (am_cvp (nw_ad ad n q)) = ls.map (am_cvp ad) := List.map_congr_left fun x hx => by
    show (x.1, _) = (x.1, _)
    rw [nw_cv (hls x hx)]
  rw [e]
  exact hl
theorem nw_st {q : Nat} (hst : ∀ v ∈ st, v ≠ .ref n) : st.map (am_cv (nw_ad ad n q)) = st.map (am_cv ad) := List.map_congr_left fun v hv => nw_cv (hst v hv)
/-- the addresses are apart also with the new one -/
theorem nw_dj {A : Nat → Prop} {dA : Nat → ClassId} {q : Nat} {x : va_E} (hDj : am_Dj A (ad, n, sh)) (hD : va_D A (am_ws dA (ad, n, sh) r h ++ [(q, x)])) : am_Dj A (nw_ad ad n q, n + 1, sh) := by
  have hlen : (am_ws dA (ad, n, sh) r h).length = n := by simp [am_ws]
  have hlast : (am_ws dA (ad, n, sh) r h ++ [(q, x)])[n]? = some (q, x) := by
    rw [List.getElem?_append_right (by omega), hlen]
    simp
  have hat : ∀ i, i < n → ∃ y, (am_ws dA (ad, n, sh) r h ++ [(q, x)])[i]? = some (ad i, y) := by
    intro i hi
    have h0 := List.getElem?_append_left (l₂ := [(q, x)]) (show i < (am_ws dA (ad, n, sh) r h).length by omega)
    rw [am_ws_at (V := (ad, n, sh)) hi] at h0
    exact ⟨_, h0⟩
  have hne : ∀ i, i < n → ad i ≠ q := by
    intro i hi e
    obtain ⟨y, hy⟩ := hat i hi
    have := hD.1 i n _ _ hy hlast e
    omega
  refine ⟨fun i j hi hj e => ?_, fun i hi => ?_⟩
  · have hi' : i < n + 1 := hi
    have hj' : j < n + 1 := hj
    have e' : nw_ad ad n q i = nw_ad ad n q j := e
    by_cases hin : i = n
    · by_cases hjn : j = n
      · omega
      · rw [hin, nw_ad_n, nw_ad_o hjn] at e'
        exact absurd e'.symm (hne j (by omega))
    · by_cases hjn : j = n
      · rw [hjn, nw_ad_n, nw_ad_o hin] at e'
        exact absurd e' (hne i (by omega))
      · rw [nw_ad_o hin, nw_ad_o hjn] at e'
        exact hDj.1 i j (by show i < n; omega) (by show j < n; omega) e'
  · have hi' : i < n + 1 := hi
    show A (nw_ad ad n q i)
    by_cases hin : i = n
    · rw [hin, nw_ad_n]
      exact hD.2 n _ hlast
    · rw [nw_ad_o hin]
      exact hDj.2 i (by show i < n; omega)
/-- what a new cell of a class holds -/
def nw_de (ci : Nat) : Prop := ∀ j, j < (am_cl ci).2.2 → ∀ t, parseFieldDescriptor ((am_cl ci).2.1 j).2.2.1 = some t → defaultValue t = bif am_num ((am_cl ci).2.1 j).2.2.1 then .int 0 else .null
/-- NEW: a cell of the class ci gets the number n -/
theorem am_new {ix ci : Nat} (C : am_C M D MC MS X) (hd : decode M.2.1 pc = .ok (.new ix, 3)) (hci : ci < 13) (hde : nw_de ci) (hlink : Cond.classLink M.1.cls ix (am_cl ci).1 ∈ am_GW) (hinst : Cond.instantiable (am_cl ci).1 (am_cl ci).2.2 ∈ am_GW) (hini : Cond.initialized (am_cl ci).1 ∈ am_GW)
    (hs : sh n = (0, ci)) (hr0 : ∀ k, r n k = .null) (hh0 : ∀ k, h n k = 0) (hn : n < am_SB) (hr : ∀ i k, r i k ≠ .ref n) (hls : ∀ x ∈ ls, x.2 ≠ .ref n) (hst : ∀ v ∈ st, v ≠ .ref n) (hc : cs.1 + 1 ≤ MC) (hsl : cs.2 + (am_cl ci).2.2 ≤ MS)
    (kk : ∀ q : Nat, am_G X (nw_ad ad n q, n + 1, sh) (cs.1 + 1, cs.2 + (am_cl ci).2.2) (pc + 3) ls (.ref n :: st) r h) : am_G X (ad, n, sh) cs pc ls st r h := by
  obtain ⟨⟨p, l, e, R⟩, ⟨s, m, args, below, meth, c⟩, ⟨A, Z⟩, ⟨dC, dI, dA⟩, adK⟩ := X
  obtain ⟨⟨hx, hb, hml, hrt, hlk, hnm⟩, ⟨hown, hts, htr, hK⟩, ⟨hA, hE⟩, hDf, hDl, hMC, hMS⟩ := C
  intro H locs lsA hw hl
  obtain ⟨hP, hDj, hS, hstr⟩ := hw
  obtain ⟨htc, hin, ⟨ty, hty⟩, hnmd⟩ := am_tball hci
  have ex : am_en dA ad (sh n) (r n) (h n) = .inr (ci, (List.range (am_cl ci).2.2).map (am_fv ad (am_cl ci).2.1 (r n) (h n))) := by rw [hs]; rfl
  refine va_new (D := (dC, dI)) (ci := ci) (C := (am_cl ci).1) (T := (am_cl ci).2.1) (N := (am_cl ci).2.2) (fs := (List.range (am_cl ci).2.2).map (am_fv ad (am_cl ci).2.1 (r n) (h n))) hx hb hts (fun w hw => List.mem_cons_of_mem _ (hin w hw)) ty hty hown (hts _ (List.mem_cons_of_mem _ hlink)) (hts _ (List.mem_cons_of_mem _ hinst)) (hts _ (List.mem_cons_of_mem _ hini)) hK hP (am_D hDj) hS hA htc (fun j hj => ?_) (by rw [hMC]; exact hc) (by rw [hMS]; exact hsl) hd (fun q H1 hP1 hD1 hS1 => ?_)
  · have e1 := hde j hj _ (hty j hj)
    have e2 : am_fv ad (am_cl ci).2.1 (r n) (h n) j = bif am_num ((am_cl ci).2.1 j).2.2.1 then .int 0 else .null := by
      show (bif _ then _ else _) = _
      rw [hr0, hh0]
      rfl
    rw [e1, ← e2]
    simp [vp_V, hj]
  · rw [← ex] at hP1 hD1
    have hP2 := hP1
    rw [← nw_ws hr] at hP2
    have K := kk q H1 locs lsA ⟨hP2, nw_dj hDj hD1, hS1, fun k hk => ?_⟩ (nw_lv hls hl)
    · rw [List.map_cons, nw_st hst, show am_cv (nw_ad ad n q, n + 1, sh).1 (.ref n) = .ref q from congrArg Value.ref nw_ad_n] at K
      exact K
    · show nw_ad ad n q (am_SB + k) = adK k
      rw [nw_ad_o (by omega)]
      exact hstr k hk
end NEW
