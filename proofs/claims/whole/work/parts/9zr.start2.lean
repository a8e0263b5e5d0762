/-! THE LAW: its start -/
section CSU
variable {M : am_M} {D MC MS : Nat} {X : am_X} {cs : Nat × Nat} {pc : Nat} {ls : List (Nat × Value)} {st st0 : List Value} {r : am_R} {h : am_H} {ad : Nat → Nat} {n : Nat}
def ny_l (n n' : Nat) : List (Nat × Value) → Prop
  | [] => True
  | q :: t => nw_old n n' q.2 ∧ ny_l n n' t
def ny_s (n n' : Nat) : List Value → Prop
  | [] => True
  | v :: t => nw_old n n' v ∧ ny_s n n' t
theorem ny_l.b {n' : Nat} : ∀ {l : List (Nat × Value)}, ny_l n n' l → ∀ v ∈ l, nw_old n n' v.2
  | [], _, v, h => absurd h (List.not_mem_nil)
  | _ :: _, hh, v, h => by
    rcases List.mem_cons.mp h with rfl | h
    · exact hh.1
    · exact ny_l.b hh.2 v h
theorem ny_s.b {n' : Nat} : ∀ {l : List Value}, ny_s n n' l → ∀ v ∈ l, nw_old n n' v
  | [], _, v, h => absurd h (List.not_mem_nil)
  | _ :: _, hh, v, h => by
    rcases List.mem_cons.mp h with rfl | h
    · exact hh.1
    · exact ny_s.b hh.2 v h
theorem ny_ne {v : Value} (h : nw_old n (n + 1) v) : v ≠ .ref n := fun e => (h n e).elim (fun q => absurd q (Nat.lt_irrefl n)) (fun q => absurd q (Nat.not_succ_le_self n))
theorem ny_r {n' q : Nat} (h : q < n ∨ n' ≤ q) : nw_old n n' (.ref q) := fun i e => by cases e; exact h
theorem ny_i {n' : Nat} {x : Int32} : nw_old n n' (.int x) := fun i e => by cases e
theorem ny_b {n' : Nat} (h : n' ≤ 1000) : nw_old n n' (.ref (am_SB + 50)) := ny_r (Or.inr (Nat.le_trans h (show 1000 ≤ 1000000 + 50 by decide)))
theorem ny_new {ix ci m : Nat} {cz : Nat × Nat} (C : am_C M D MC MS X) (hd : decode M.2.1 pc = .ok (.new ix, 3)) (fr : nw_fr r h n) (hs : am_SH n = (0, ci)) (hci : ci < 13) (hde : nw_de ci) (hlink : Cond.classLink M.1.cls ix (am_cl ci).1 ∈ am_GW) (hinst : Cond.instantiable (am_cl ci).1 (am_cl ci).2.2 ∈ am_GW) (hini : Cond.initialized (am_cl ci).1 ∈ am_GW)
    (hn : n < am_SB) (hls : ny_l n m ls) (hst : ny_s n m st) (hm : n + 1 = m) (hz : (cs.1 + 1, cs.2 + (am_cl ci).2.2) = cz) (hc : cz.1 ≤ MC) (hsl : cz.2 ≤ MS)
    (kk : ∀ ad' : Nat → Nat, nw_ok n m ad ad' → am_G X (ad', m, am_SH) cz (pc + 3) ls (.ref n :: st) r h) : am_G X (ad, n, am_SH) cs pc ls st r h := by
  subst hm
  subst hz
  exact am_new C hd hci hde hlink hinst hini hs (fun k => (fr.2 n (Nat.le_refl n)).1 k) (fun k => (fr.2 n (Nat.le_refl n)).2 k) hn fr.ne (fun x hx => ny_ne (hls.b x hx)) (fun v hv => ny_ne (hst.b v hv)) hc hsl (fun q => kk _ nw_ok_new)
theorem ny_newa4 {N m : Nat} {cz : Nat × Nat} {x : Int32} (C : am_C M D MC MS X) (hd : decode M.2.1 pc = .ok (.newarray .long, 2)) (fr : nw_fr r h n) (hs : am_SH n = (4, N)) (hx0 : ¬ x < 0) (hxN : x.toNatClampNeg = N) (hby : N * componentBytes (newarray.typeOf .long) ≤ 536870912)
    (hn : n < am_SB) (hls : ny_l n m ls) (hst : ny_s n m st) (hm : n + 1 = m) (hz : (cs.1 + 1, cs.2 + N) = cz) (hc : cz.1 ≤ MC) (hsl : cz.2 ≤ MS)
    (kk : ∀ ad' : Nat → Nat, nw_ok n m ad ad' → am_G X (ad', m, am_SH) cz (pc + 2) ls (.ref n :: st) r h) : am_G X (ad, n, am_SH) cs pc ls (.int x :: st) r h := by
  subst hm
  subst hz
  exact am_newa (t := 4) C hd (fun _ => rfl) nx_ar4 (nw_en4 hs (fun k => (fr.2 n (Nat.le_refl n)).2 k)) hx0 hxN hby hn fr.ne (fun x hx => ny_ne (hls.b x hx)) (fun v hv => ny_ne (hst.b v hv)) hc hsl (fun q => kk _ nw_ok_new)
theorem ny_call {Y : am_M} {k d mc ms ix b n' : Nat} {As : List Value} {r2 : am_R} {h2 : am_H} {cz : Nat × Nat} (C : am_C M D MC MS X) (hO : nw_O X) (hd : decode M.2.1 pc = .ok (.invokespecial ix, 3)) (hl : Cond.methodLink M.1.cls ix Y.1 ∈ am_GW) (hY : am_II Y k) (hst : st0 = As.reverse ++ .ref b :: st) (hk : As.length = k)
    (hD : d + 1 ≤ D) (hz : (cs.1 + mc, cs.2 + ms) = cz) (h1 : cz.1 ≤ MC) (h2' : cz.2 ≤ MS) (h8 : (st.map fun v => v.category).sum ≤ 8) (hn' : n' ≤ am_SB) (hls : ny_l n n' ls) (hso : ny_s n n' st)
    (hct : am_NM Y d mc ms (.ref b :: As) ad n n' am_SH r h (nw_Q r2 h2 n')) (kk : ∀ ad' : Nat → Nat, nw_ok n n' ad ad' → nw_fr r2 h2 n' → am_G X (ad', n', am_SH) cz (pc + 3) ls st r2 h2) : am_G X (ad, n, am_SH) cs pc ls st0 r h := by
  subst hz
  exact am_callN C hO hd hl hY hst hk hD h1 h2' h8 hn' hls.b hso.b hct (fun ad' r' h' ok ⟨e1, e2, f⟩ => by subst e1; subst e2; exact kk ad' ok f)
set_option maxHeartbeats 1000000 in
set_option maxRecDepth 100000 in
/-- from the entry to the loop's end -/
theorem lp_start {b L : Nat} {xs : Nat → Int32} (C : am_C mLaw 100 lp_MC lp_MS X) (hO : nw_O X) (S : lp_S X b L xs) (hb : ad (am_SB + 50) = b) (hL : L ≤ 3072) (E : lp_E X lp_MC lp_MS) : am_G X (ad, 0, am_SH) (0, 0) 0 [(0, .ref (am_SB + 50))] [] (fun _ _ => .null) (fun _ _ => 0) := by
  have fr : nw_fr (fun _ _ => .null) (fun _ _ => 0) 0 := ⟨fun i k j e => Value.noConfusion (show Value.null = Value.ref j from e), fun i hi => ⟨fun _ => rfl, fun _ => rfl⟩⟩
  refine ny_new (pc := 0) (ci := 11) (m := 1) (cz := (1, 13)) C dL_law__0 fr sh_0 (by decide) nw_de11 (am_mem 168 (by decide +kernel) rfl) (am_mem 169 (by decide +kernel) rfl) (am_mem 140 (by decide +kernel) rfl) (nx_sb (by omega)) ⟨ny_b (by omega), trivial⟩ trivial rfl rfl (Nat.le_of_ble_eq_true rfl) (Nat.le_of_ble_eq_true rfl) (fun ad1 o1 => ?_)
  refine am_dup (pc := 3) C dL_law__3 rfl ?_
  refine ny_call (Y := mX11_init) (pc := 4) (st := [.ref 0]) (As := []) (n' := 322) (cz := (322, 13884)) C hO dL_law__4 kL_122 v_X11_init rfl rfl (by decide) rfl (Nat.le_of_ble_eq_true rfl) (Nat.le_of_ble_eq_true rfl) (Nat.le_of_ble_eq_true rfl) (nx_sbl (by omega)) ⟨ny_b (by omega), trivial⟩ ⟨ny_r (by omega), trivial⟩ (nc_X11_init (fr.mono (by omega))) (fun ad2 o2 f2 => ?_)
  refine am_astore_n (pc := 7) (ls' := [(0, .ref (am_SB + 50)), (1, .ref 0)]) C dL_law__7 (by decide) rfl ?_
  refine ny_new (pc := 8) (ci := 12) (m := 323) (cz := (323, 13906)) C dL_law__8 f2 sh_322 (by decide) nw_de12 (am_mem 1746 (by decide +kernel) rfl) (am_mem 1747 (by decide +kernel) rfl) (am_mem 152 (by decide +kernel) rfl) (nx_sb (by omega)) ⟨ny_b (by omega), ny_r (by omega), trivial⟩ trivial rfl rfl (Nat.le_of_ble_eq_true rfl) (Nat.le_of_ble_eq_true rfl) (fun ad3 o3 => ?_)
  refine am_dup (pc := 11) C dL_law__11 rfl ?_
  refine ny_call (Y := mX12_init) (pc := 12) (st := [.ref 322]) (As := []) (n' := 335) (cz := (335, 72051)) C hO dL_law__12 kL_125 v_X12_init rfl rfl (by decide) rfl (Nat.le_of_ble_eq_true rfl) (Nat.le_of_ble_eq_true rfl) (Nat.le_of_ble_eq_true rfl) (nx_sbl (by omega)) ⟨ny_b (by omega), ny_r (by omega), trivial⟩ ⟨ny_r (by omega), trivial⟩ (nc_X12_init (f2.mono (by omega))) (fun ad4 o4 f4 => ?_)
  refine am_astore_n (pc := 15) (ls' := [(0, .ref (am_SB + 50)), (1, .ref 0), (2, .ref 322)]) C dL_law__15 (by decide) rfl ?_
  refine am_iconstN (pc := 16) (k := 1) C dL_law__16 ?_
  refine ny_newa4 (pc := 17) (N := 1) (m := 336) (cz := (336, 72052)) C dL_law__17 f4 sh_335 (by decide +kernel) (by decide +kernel) (by decide +kernel) (nx_sb (by omega)) ⟨ny_b (by omega), ny_r (by omega), ny_r (by omega), trivial⟩ trivial rfl rfl (Nat.le_of_ble_eq_true rfl) (Nat.le_of_ble_eq_true rfl) (fun ad5 o5 => ?_)
  refine am_astore_n (pc := 19) (ls' := [(0, .ref (am_SB + 50)), (1, .ref 0), (2, .ref 322), (3, .ref 335)]) C dL_law__19 (by decide) rfl ?_
  refine am_iconstN (pc := 20) (k := 0) C dL_law__20 ?_
  refine am_istore (pc := 21) (ls' := lp_ls 0) C dL_law__21 (by decide) rfl ?_
  have hb5 : ad5 (am_SB + 50) = b := by
    have hbig : ∀ m, m ≤ 1000 → m ≤ am_SB + 50 := fun m hm => Nat.le_trans hm (show 1000 ≤ 1000000 + 50 by decide)
    rw [o5 _ (Or.inr (hbig _ (by omega))), o4 _ (Or.inr (hbig _ (by omega))), o3 _ (Or.inr (hbig _ (by omega))), o2 _ (Or.inr (hbig _ (by omega))), o1 _ (Or.inr (hbig _ (by omega)))]
    exact hb
  refine am_widen (cs' := lp_cs 0) (show 336 ≤ 400 + 5 * 0 by omega) (show 72052 ≤ 73000 + 30 * 0 by omega) ?_
  exact lp_loop (ad := ad5) ⟨C, S, hb5, hL⟩ E 513 0 rfl (Nat.zero_le _) nz_r nz_h nz_rs nz_R
end CSU
