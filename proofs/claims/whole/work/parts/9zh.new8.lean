/-! THE ROWS OF THE CONSTRUCTORS, with what is fresh -/
section NEWX
variable {M : am_M} {D MC MS : Nat} {X : am_X} {cs : Nat × Nat} {pc : Nat} {ls : List (Nat × Value)} {st st0 : List Value} {r : am_R} {h : am_H} {ad : Nat → Nat} {n : Nat}
/-- behind the cell n nothing stands yet, and nothing names it -/
def nw_fr (r : am_R) (h : am_H) (n : Nat) : Prop := (∀ i k j, r i k = .ref j → j < n) ∧ ∀ i, n ≤ i → (∀ k, r i k = .null) ∧ ∀ k, h i k = 0
theorem nw_fr.ne (f : nw_fr r h n) (i k : Nat) : r i k ≠ .ref n := fun e => absurd (f.1 i k n e) (Nat.lt_irrefl n)
theorem nw_fr.mono {m : Nat} (f : nw_fr r h n) (hm : n ≤ m) : nw_fr r h m := ⟨fun i k j e => Nat.lt_of_lt_of_le (f.1 i k j e) hm, fun i hi => f.2 i (Nat.le_trans hm hi)⟩
theorem nw_fr.pr {i k j : Nat} (f : nw_fr r h n) (hi : i < n) (hj : j < n) : nw_fr (am_up r i k (.ref j)) h n := by
  refine ⟨fun a b c e => ?_, fun a ha => ⟨fun b => ?_, (f.2 a ha).2⟩⟩
  · by_cases hab : a = i ∧ b = k
    · rw [am_up, if_pos hab] at e
      cases e
      exact hj
    · rw [am_up, if_neg hab] at e
      exact f.1 a b c e
  · rw [am_up_ne _ _ _ _ _ (by omega)]
    exact (f.2 a ha).1 b
theorem nw_fr.ph {i k : Nat} {v : Int32} (f : nw_fr r h n) (hi : i < n) : nw_fr r (am_up h i k v) n := by
  refine ⟨f.1, fun a ha => ⟨(f.2 a ha).1, fun b => ?_⟩⟩
  rw [am_up_ne _ _ _ _ _ (by omega)]
  exact (f.2 a ha).2 b
def nw_vb (n : Nat) (v : Value) : Prop := ∀ i, v = .ref i → i < n
theorem nw_vbr {q : Nat} (hq : q < n) : nw_vb n (.ref q) := fun i e => by cases e; exact hq
theorem nw_vbi {x : Int32} : nw_vb n (.int x) := fun i e => by cases e
def nw_vs (n : Nat) : List Value → Prop
  | [] => True
  | v :: t => nw_vb n v ∧ nw_vs n t
def nw_vl (n : Nat) : List (Nat × Value) → Prop
  | [] => True
  | q :: t => nw_vb n q.2 ∧ nw_vl n t
theorem nw_vs.b : ∀ {l : List Value}, nw_vs n l → ∀ v ∈ l, nw_vb n v
  | [], _, v, h => absurd h (List.not_mem_nil)
  | _ :: _, hh, v, h => by
    rcases List.mem_cons.mp h with rfl | h
    · exact hh.1
    · exact nw_vs.b hh.2 v h
theorem nw_vl.b : ∀ {l : List (Nat × Value)}, nw_vl n l → ∀ v ∈ l, nw_vb n v.2
  | [], _, v, h => absurd h (List.not_mem_nil)
  | _ :: _, hh, v, h => by
    rcases List.mem_cons.mp h with rfl | h
    · exact hh.1
    · exact nw_vl.b hh.2 v h
theorem nw_vb.ne {v : Value} (h : nw_vb n v) : v ≠ .ref n := fun e => absurd (h n e) (Nat.lt_irrefl n)
theorem nw_vb.old {n' : Nat} {v : Value} (h : nw_vb n v) : nw_old n n' v := fun i e => Or.inl (h i e)
def nw_shs (n : Nat) (l : List (Nat × Nat)) : Prop := ∀ j, j < l.length → am_SH (n + j) = l.getD j (9, 0)
theorem nx_new {ix ci m : Nat} {cz : Nat × Nat} (C : am_C M D MC MS X) (hd : decode M.2.1 pc = .ok (.new ix, 3)) (fr : nw_fr r h n) (hs : am_SH n = (0, ci)) (hci : ci < 13) (hde : nw_de ci) (hlink : Cond.classLink M.1.cls ix (am_cl ci).1 ∈ am_GW) (hinst : Cond.instantiable (am_cl ci).1 (am_cl ci).2.2 ∈ am_GW) (hini : Cond.initialized (am_cl ci).1 ∈ am_GW)
    (hn : n < am_SB) (hls : nw_vl n ls) (hst : nw_vs n st) (hm : n + 1 = m) (hz : (cs.1 + 1, cs.2 + (am_cl ci).2.2) = cz) (hc : cz.1 ≤ MC) (hsl : cz.2 ≤ MS)
    (kk : ∀ ad' : Nat → Nat, nw_ok n m ad ad' → am_G X (ad', m, am_SH) cz (pc + 3) ls (.ref n :: st) r h) : am_G X (ad, n, am_SH) cs pc ls st r h := by
  subst hm
  subst hz
  exact am_new C hd hci hde hlink hinst hini hs (fun k => (fr.2 n (Nat.le_refl n)).1 k) (fun k => (fr.2 n (Nat.le_refl n)).2 k) hn fr.ne (fun x hx => (hls.b x hx).ne) (fun v hv => (hst.b v hv).ne) hc hsl (fun q => kk _ nw_ok_new)
theorem nx_ar1 : Cond.arrayClass (newarray.typeOf .int) ∈ am_GW := am_mem 209 (by decide +kernel) rfl
theorem nx_ar2 : Cond.arrayClass (newarray.typeOf .byte) ∈ am_GW := am_mem 1027 (by decide +kernel) rfl
theorem nx_ar3 : Cond.arrayClass (newarray.typeOf .boolean) ∈ am_GW := am_mem 1820 (by decide +kernel) rfl
theorem nx_ar4 : Cond.arrayClass (newarray.typeOf .long) ∈ am_GW := am_mem 2409 (by decide +kernel) rfl
theorem nx_newa1 {N m : Nat} {cz : Nat × Nat} {x : Int32} (C : am_C M D MC MS X) (hd : decode M.2.1 pc = .ok (.newarray .int, 2)) (fr : nw_fr r h n) (hs : am_SH n = (1, N)) (hx0 : ¬ x < 0) (hxN : x.toNatClampNeg = N) (hby : N * componentBytes (newarray.typeOf .int) ≤ 536870912)
    (hn : n < am_SB) (hls : nw_vl n ls) (hst : nw_vs n st) (hm : n + 1 = m) (hz : (cs.1 + 1, cs.2 + N) = cz) (hc : cz.1 ≤ MC) (hsl : cz.2 ≤ MS)
    (kk : ∀ ad' : Nat → Nat, nw_ok n m ad ad' → am_G X (ad', m, am_SH) cz (pc + 2) ls (.ref n :: st) r h) : am_G X (ad, n, am_SH) cs pc ls (.int x :: st) r h := by
  subst hm
  subst hz
  exact am_newa (t := 1) C hd (fun _ => rfl) nx_ar1 (nw_en1 hs (fun k => (fr.2 n (Nat.le_refl n)).2 k)) hx0 hxN hby hn fr.ne (fun x hx => (hls.b x hx).ne) (fun v hv => (hst.b v hv).ne) hc hsl (fun q => kk _ nw_ok_new)
theorem nx_newa2 {N m : Nat} {cz : Nat × Nat} {x : Int32} (C : am_C M D MC MS X) (hd : decode M.2.1 pc = .ok (.newarray .byte, 2)) (fr : nw_fr r h n) (hs : am_SH n = (2, N)) (hx0 : ¬ x < 0) (hxN : x.toNatClampNeg = N) (hby : N * componentBytes (newarray.typeOf .byte) ≤ 536870912)
    (hn : n < am_SB) (hls : nw_vl n ls) (hst : nw_vs n st) (hm : n + 1 = m) (hz : (cs.1 + 1, cs.2 + N) = cz) (hc : cz.1 ≤ MC) (hsl : cz.2 ≤ MS)
    (kk : ∀ ad' : Nat → Nat, nw_ok n m ad ad' → am_G X (ad', m, am_SH) cz (pc + 2) ls (.ref n :: st) r h) : am_G X (ad, n, am_SH) cs pc ls (.int x :: st) r h := by
  subst hm
  subst hz
  exact am_newa (t := 2) C hd (fun _ => rfl) nx_ar2 (nw_en2 hs (fun k => (fr.2 n (Nat.le_refl n)).2 k)) hx0 hxN hby hn fr.ne (fun x hx => (hls.b x hx).ne) (fun v hv => (hst.b v hv).ne) hc hsl (fun q => kk _ nw_ok_new)
theorem nx_newa3 {N m : Nat} {cz : Nat × Nat} {x : Int32} (C : am_C M D MC MS X) (hd : decode M.2.1 pc = .ok (.newarray .boolean, 2)) (fr : nw_fr r h n) (hs : am_SH n = (3, N)) (hx0 : ¬ x < 0) (hxN : x.toNatClampNeg = N) (hby : N * componentBytes (newarray.typeOf .boolean) ≤ 536870912)
    (hn : n < am_SB) (hls : nw_vl n ls) (hst : nw_vs n st) (hm : n + 1 = m) (hz : (cs.1 + 1, cs.2 + N) = cz) (hc : cz.1 ≤ MC) (hsl : cz.2 ≤ MS)
    (kk : ∀ ad' : Nat → Nat, nw_ok n m ad ad' → am_G X (ad', m, am_SH) cz (pc + 2) ls (.ref n :: st) r h) : am_G X (ad, n, am_SH) cs pc ls (.int x :: st) r h := by
  subst hm
  subst hz
  exact am_newa (t := 3) C hd (fun _ => rfl) nx_ar3 (nw_en3 hs (fun k => (fr.2 n (Nat.le_refl n)).2 k)) hx0 hxN hby hn fr.ne (fun x hx => (hls.b x hx).ne) (fun v hv => (hst.b v hv).ne) hc hsl (fun q => kk _ nw_ok_new)
theorem nx_newa4 {N m : Nat} {cz : Nat × Nat} {x : Int32} (C : am_C M D MC MS X) (hd : decode M.2.1 pc = .ok (.newarray .long, 2)) (fr : nw_fr r h n) (hs : am_SH n = (4, N)) (hx0 : ¬ x < 0) (hxN : x.toNatClampNeg = N) (hby : N * componentBytes (newarray.typeOf .long) ≤ 536870912)
    (hn : n < am_SB) (hls : nw_vl n ls) (hst : nw_vs n st) (hm : n + 1 = m) (hz : (cs.1 + 1, cs.2 + N) = cz) (hc : cz.1 ≤ MC) (hsl : cz.2 ≤ MS)
    (kk : ∀ ad' : Nat → Nat, nw_ok n m ad ad' → am_G X (ad', m, am_SH) cz (pc + 2) ls (.ref n :: st) r h) : am_G X (ad, n, am_SH) cs pc ls (.int x :: st) r h := by
  subst hm
  subst hz
  exact am_newa (t := 4) C hd (fun _ => rfl) nx_ar4 (nw_en4 hs (fun k => (fr.2 n (Nat.le_refl n)).2 k)) hx0 hxN hby hn fr.ne (fun x hx => (hls.b x hx).ne) (fun v hv => (hst.b v hv).ne) hc hsl (fun q => kk _ nw_ok_new)
theorem nx_newq {ix N m : Nat} {cz : Nat × Nat} {x : Int32} (C : am_C M D MC MS X) (hO : nw_O X) (hd : decode M.2.1 pc = .ok (.anewarray ix, 3)) (hlink : Cond.classLink M.1.cls ix "ForgetWar$Scene" ∈ am_GW) (fr : nw_fr r h n) (hs : am_SH n = (5, N)) (hx0 : ¬ x < 0) (hxN : x.toNatClampNeg = N) (hby : N * 4 ≤ 536870912)
    (hn : n < am_SB) (hls : nw_vl n ls) (hst : nw_vs n st) (hm : n + 1 = m) (hz : (cs.1 + 1, cs.2 + N) = cz) (hc : cz.1 ≤ MC) (hsl : cz.2 ≤ MS)
    (kk : ∀ ad' : Nat → Nat, nw_ok n m ad ad' → am_G X (ad', m, am_SH) cz (pc + 3) ls (.ref n :: st) r h) : am_G X (ad, n, am_SH) cs pc ls (.int x :: st) r h := by
  subst hm
  subst hz
  exact am_newq C hd hlink hO hs (fun k => (fr.2 n (Nat.le_refl n)).1 k) hx0 hxN hby hn fr.ne (fun x hx => (hls.b x hx).ne) (fun v hv => (hst.b v hv).ne) hc hsl (fun q => kk _ nw_ok_new)
/-- what a constructor leaves -/
def nw_Q (r2 : am_R) (h2 : am_H) (n : Nat) (r9 : am_R) (h9 : am_H) : Prop := r2 = r9 ∧ h2 = h9 ∧ nw_fr r9 h9 n
theorem nx_call {Y : am_M} {k d mc ms ix b n' : Nat} {As : List Value} {r2 : am_R} {h2 : am_H} {cz : Nat × Nat} (C : am_C M D MC MS X) (hO : nw_O X) (hd : decode M.2.1 pc = .ok (.invokespecial ix, 3)) (hl : Cond.methodLink M.1.cls ix Y.1 ∈ am_GW) (hY : am_II Y k) (hst : st0 = As.reverse ++ .ref b :: st) (hk : As.length = k)
    (hD : d + 1 ≤ D) (hz : (cs.1 + mc, cs.2 + ms) = cz) (h1 : cz.1 ≤ MC) (h2' : cz.2 ≤ MS) (h8 : (st.map fun v => v.category).sum ≤ 8) (hn' : n' ≤ am_SB) (hls : nw_vl n ls) (hso : nw_vs n st)
    (hct : am_NM Y d mc ms (.ref b :: As) ad n n' am_SH r h (nw_Q r2 h2 n')) (kk : ∀ ad' : Nat → Nat, nw_ok n n' ad ad' → nw_fr r2 h2 n' → am_G X (ad', n', am_SH) cz (pc + 3) ls st r2 h2) : am_G X (ad, n, am_SH) cs pc ls st0 r h := by
  subst hz
  exact am_callN C hO hd hl hY hst hk hD h1 h2' h8 hn' (fun x hx => (hls.b x hx).old) (fun v hv => (hso.b v hv).old) hct (fun ad' r' h' ok ⟨e1, e2, f⟩ => by subst e1; subst e2; exact kk ad' ok f)
theorem nx_callN {Y : am_M} {host : String} {k d mc ms ix b n' : Nat} {As : List Value} {r2 : am_R} {h2 : am_H} {cz : Nat × Nat} (C : am_C M D MC MS X) (hO : nw_O X) (hd : decode M.2.1 pc = .ok (.invokespecial ix, 3)) (hl : Cond.methodLinkNest M.1.cls ix Y.1 host ∈ am_NW) (hY : am_II Y k) (hst : st0 = As.reverse ++ .ref b :: st) (hk : As.length = k)
    (hD : d + 1 ≤ D) (hz : (cs.1 + mc, cs.2 + ms) = cz) (h1 : cz.1 ≤ MC) (h2' : cz.2 ≤ MS) (h8 : (st.map fun v => v.category).sum ≤ 8) (hn' : n' ≤ am_SB) (hls : nw_vl n ls) (hso : nw_vs n st)
    (hct : am_NM Y d mc ms (.ref b :: As) ad n n' am_SH r h (nw_Q r2 h2 n')) (kk : ∀ ad' : Nat → Nat, nw_ok n n' ad ad' → nw_fr r2 h2 n' → am_G X (ad', n', am_SH) cz (pc + 3) ls st r2 h2) : am_G X (ad, n, am_SH) cs pc ls st0 r h := by
  obtain ⟨⟨p, l, e, R⟩, ⟨s, m, args, below, meth, c⟩, ⟨A, Z⟩, ⟨dC, dI, dA⟩, adK⟩ := X
  obtain ⟨⟨hx, hb9, hml, hrt, hlk, hnm⟩, ⟨hown, hts, htr, hK⟩, ⟨hA, hE⟩, hDf, hDl, hMC, hMS⟩ := C
  intro H locs lsA hw hloc
  obtain ⟨y, bytes, maxL, ret⟩ := Y
  obtain ⟨⟨sg1, sg2, sg3⟩, hcd, hin, hna, hret⟩ := hY
  have hret' : ret = none := hret
  subst hret'
  subst hst
  subst hz
  have good : ∀ w ∈ am_GW, w.before args s = true := fun w h => hts w (List.mem_cons_of_mem _ h)
  have hM := hct l htr dC dI dA adK H.size
  refine nw_after hw hA hn' (va_runIN (As := As.map (am_cv ad)) (rest := st.map (am_cv ad)) (b := ad b) ⟨hx, hb9, hml, hown, hts⟩ hM
    ⟨va_cnB k hts (am_gi (am_wsy hcd)) rfl rfl rfl (hE.1 _ hl) (good _ hcd.2.1) ⟨sg1, sg2, sg3⟩ ⟨by show d + 1 ≤ R.frames; omega, by show 8 + (maxL + 11) + 64 * d ≤ R.locals; have h9 : maxL ≤ 45 := hcd.2.2; omega⟩, hna, good _ hin⟩
    ⟨nw_blind, fun U hU hW => ?_⟩ rfl (by rw [List.length_map]; exact hk) (hloc.1.trans hml) ?_ (lv_room (by rw [am_cats]; exact h8)) hd ⟨by show cs.1 + mc ≤ R.cells; rw [hMC]; exact h1, by show cs.2 + ms ≤ R.slots; rw [hMS]; exact h2'⟩) ?_
  · obtain ⟨q1, q2⟩ := am_pre (as := .ref b :: As) hw hA hK hE U hU hW
    exact ⟨q1, q2, va_AO.moved hW.alike hO⟩
  · simp [am_cv]
  · intro ad' r' h' hok hq H1 locs1 hw1
    obtain ⟨e1, e2, f⟩ := hq
    subst e1
    subst e2
    rw [← nw_sts hok (fun v hv => (hso.b v hv).old)]
    exact kk ad' hok f H1 locs1 lsA hw1 (nw_lvs hok (fun x hx => (hls.b x hx).old) hloc)
end NEWX
