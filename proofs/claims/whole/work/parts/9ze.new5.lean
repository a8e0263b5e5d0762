/-! A CONSTRUCTOR CALLED -/
section NEWC
variable {M : am_M} {D MC MS : Nat} {X : am_X} {cs : Nat × Nat} {pc : Nat} {ls : List (Nat × Value)} {st st0 : List Value} {r : am_R} {h : am_H} {ad : Nat → Nat} {n : Nat} {sh : am_Sh}
theorem nw_lvs {n' : Nat} {ad' : Nat → Nat} {lsA : Array Slot} {m : Nat} (ho : nw_ok n n' ad ad') (hls : ∀ x ∈ ls, nw_old n n' x.2) (hl : lv_has lsA m (ls.map (am_cvp ad))) : lv_has lsA m (ls.map (am_cvp ad')) := by
  have e : ls.map (am_cvp ad') = ls.map (am_cvp ad) := List.map_congr_left fun x hx => by
    show (x.1, _) = (x.1, _)
    rw [nw_old_cv ho (hls x hx)]
  rw [e]
  exact hl
theorem nw_sts {n' : Nat} {ad' : Nat → Nat} (ho : nw_ok n n' ad ad') (hst : ∀ v ∈ st, nw_old n n' v) : st.map (am_cv ad') = st.map (am_cv ad) := List.map_congr_left fun v hv => nw_old_cv ho (hst v hv)
theorem nw_after {p : Program} {l : Launch} {e : Env} {R : Room} {s : State} {m : MethodId} {args : Array Value} {below : List Frame} {meth : Method} {c : Code} {A : Nat → Prop} {Z : State → Prop} {dC : Nat → ClassId} {dI : Nat → Nat → Nat} {dA : Nat → ClassId} {adK : Nat → Nat} {H : Heap} {locs : List Loc} {mc ms n' : Nat} {lsA : Array Slot} {sv rest : List Value} {a : Array Value} {Q : am_R → am_H → Prop}
    (hw : am_w ((p, l, e, R), (s, m, args, below, meth, c), (A, Z), (dC, dI, dA), adK) (ad, n, sh) r h H locs) (hA : ∀ q, s.heap.size ≤ q → A q) (hn' : n' ≤ am_SB)
    (hr : va_Run p l e R s m args below meth c H locs cs.1 cs.2 mc ms (F0 m pc lsA sv) rest (nw_Post dC dI dA ad n n' sh H.size Q a) (am_A (ad, n, sh) H.size))
    (kk : ∀ (ad' : Nat → Nat) (r' : am_R) (h' : am_H), nw_ok n n' ad ad' → Q r' h' → ∀ (H1 : Heap) (locs1 : List Loc), am_w ((p, l, e, R), (s, m, args, below, meth, c), (A, Z), (dC, dI, dA), adK) (ad', n', sh) r' h' H1 locs1 → W p l e R s m args below meth c H1 locs1 (cs.1 + mc) (cs.2 + ms) Z (F0 m (pc + 3) lsA rest)) :
    W p l e R s m args below meth c H locs cs.1 cs.2 Z (F0 m pc lsA sv) := by
  obtain ⟨hP, hD, hS, hstr⟩ := hw
  intro T hT X
  obtain ⟨v, st₀, t, T', L, h0, X', hL, e1, e2, ⟨⟨ad', r', h', hv, hok, hq, hP', hDj⟩, hF⟩, st⟩ := hr T hT X
  cases hv
  have hin := am_inA hA hD hS
  obtain ⟨-, -, hS'⟩ := vx_keep (H := H) (A0 := A) (A1 := am_A (ad, n, sh) H.size) h0 e1 hS (fun q _ hq => hin q hq) hin hL hF
  obtain ⟨t2, a1, b1⟩ := kk ad' r' h' hok hq T'.heap (locs ++ L) ⟨by rw [e1]; exact hP', ⟨hDj.1, fun i hi => hin _ (hDj.2 i hi)⟩, hS', fun k hk => (hok _ (Or.inr (Nat.le_trans hn' (Nat.le_add_right _ _)))).trans (hstr k hk)⟩ T' rfl X'
  exact ⟨t2, st t2 a1, b1⟩
/-- INVOKESPECIAL of a constructor: from n to n' cells -/
theorem am_callN {Y : am_M} {k d mc ms ix b n' : Nat} {As : List Value} {Q : am_R → am_H → Prop} (C : am_C M D MC MS X) (hO : nw_O X) (hd : decode M.2.1 pc = .ok (.invokespecial ix, 3)) (hl : Cond.methodLink M.1.cls ix Y.1 ∈ am_GW) (hY : am_II Y k) (hst : st0 = As.reverse ++ .ref b :: st) (hk : As.length = k)
    (hD : d + 1 ≤ D) (h1 : cs.1 + mc ≤ MC) (h2 : cs.2 + ms ≤ MS) (h8 : (st.map fun v => v.category).sum ≤ 8) (hn' : n' ≤ am_SB) (hls : ∀ x ∈ ls, nw_old n n' x.2) (hso : ∀ v ∈ st, nw_old n n' v)
    (hct : am_NM Y d mc ms (.ref b :: As) ad n n' sh r h Q) (kk : ∀ (ad' : Nat → Nat) (r' : am_R) (h' : am_H), nw_ok n n' ad ad' → Q r' h' → am_G X (ad', n', sh) (cs.1 + mc, cs.2 + ms) (pc + 3) ls st r' h') : am_G X (ad, n, sh) cs pc ls st0 r h := by
  obtain ⟨⟨p, l, e, R⟩, ⟨s, m, args, below, meth, c⟩, ⟨A, Z⟩, ⟨dC, dI, dA⟩, adK⟩ := X
  obtain ⟨⟨hx, hb9, hml, hrt, hlk, hnm⟩, ⟨hown, hts, htr, hK⟩, ⟨hA, hE⟩, hDf, hDl, hMC, hMS⟩ := C
  intro H locs lsA hw hloc
  obtain ⟨y, bytes, maxL, ret⟩ := Y
  obtain ⟨⟨sg1, sg2, sg3⟩, hcd, hin, hna, hret⟩ := hY
  have hret' : ret = none := hret
  subst hret'
  subst hst
  have good : ∀ w ∈ am_GW, w.before args s = true := fun w h => hts w (List.mem_cons_of_mem _ h)
  have hM := hct l htr dC dI dA adK H.size
  refine nw_after hw hA hn' (va_runI (As := As.map (am_cv ad)) (rest := st.map (am_cv ad)) (b := ad b) ⟨hx, hb9, hml, hown, hts⟩ hM
    ⟨callB_of k hts (am_gi (am_wsy hcd)) rfl rfl rfl (good _ hcd.2.1) (good _ hl) ⟨sg1, sg2, sg3⟩ ⟨by show d + 1 ≤ R.frames; omega, by show 8 + (maxL + 11) + 64 * d ≤ R.locals; have h9 : maxL ≤ 45 := hcd.2.2; omega⟩, hna, good _ hin⟩
    ⟨nw_blind, fun U hU hW => ?_⟩ rfl (by rw [List.length_map]; exact hk) (hloc.1.trans hml) ?_ (lv_room (by rw [am_cats]; exact h8)) hd ⟨by omega, by omega⟩) ?_
  · obtain ⟨q1, q2⟩ := am_pre (as := .ref b :: As) hw hA hK hE U hU hW
    exact ⟨q1, q2, va_AO.moved hW.alike hO⟩
  · simp [am_cv]
  · intro ad' r' h' hok hq H1 locs1 hw1
    rw [← nw_sts hok hso]
    exact kk ad' r' h' hok hq H1 locs1 lsA hw1 (nw_lvs hok hls hloc)
end NEWC
