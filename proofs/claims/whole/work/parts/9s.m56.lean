/-! THE CLASS'S PUBLIC CALLS: texts of the war, texts of the law -/
section M56
theorem cl_closed (h : am_H) (v : Int32) : ((am_row (am_row h 0 (upd (h 0) 12 v)) 1 (upd (h 1) 1 (nI 0))) 0) 12 = v ∧ ((am_row (am_row h 0 (upd (h 0) 12 v)) 1 (upd (h 1) 1 (nI 0))) 1) 1 = nI 0 ∧ ((am_row (am_row h 0 (upd (h 0) 12 v)) 1 (upd (h 1) 1 (nI 0))) 0) 11 = (h 0) 11 ∧ ∀ i, i ≠ 0 ∧ i ≠ 1 → (am_row (am_row h 0 (upd (h 0) 12 v)) 1 (upd (h 1) 1 (nI 0))) i = h i := by
  refine ⟨?_, ?_, ?_, fun i hi => ?_⟩
  · rw [am_row_ne _ _ _ (by decide), am_row_at, rf_upd_eq]
  · rw [am_row_at, rf_upd_eq]
  · rw [am_row_ne _ _ _ (by decide), am_row_at, rf_upd_ne (by decide)]
  · rw [am_row_ne _ _ _ hi.2, am_row_ne _ _ _ hi.1]
theorem cl_dnf {x : Nat} (h : decide (x ≠ 0) = false) : x = 0 := Classical.not_not.mp (of_decide_eq_false h)
theorem cl_dz {x : Nat} (h : decide (x ≠ 0) = false) : decide (x = 0) = true := decide_eq_true (cl_dnf h)
theorem cl_dn {x : Nat} (h : decide (x ≠ 0) = true) : decide (x = 0) = false := decide_eq_false (of_decide_eq_true h)
theorem cl_Ta_e {o : rf_W} (h : rf_Ta o) : rf_ems o ≤ 400 := by
  have h1 := h.2.2
  have h2 : rf_p o ≤ rf_e o := h.1.2.2.1
  have h3 : rf_e o < 401 := h.1.2.1.2
  omega
def rf_cL (t o w : rf_W) : Nat := rf_cb (decide ((rf_all t false o w).1 = 0)) 1 0
def rf_cW (t o w : rf_W) : Nat := rf_cb (decide ((rf_all t true o w).1 = 0)) 1 (rf_cb (decide ((rf_all t true o w).2.2 3 = nI 12)) 2 0)
def cl_lw (h h9 : am_H) (t o w : rf_W) : Prop := (h9 1) 1 = nI 0 ∧ (h9 0) 11 = (h 0) 11 ∧ ((rf_all t false o w).1 = 0 → (h9 0) 12 = nI (rf_b (rf_all t false o w).2.1) ∧ ∀ i, i ≠ 0 ∧ i ≠ 1 ∧ (i < 70 ∨ 76 ≤ i) → h9 i = h i) ∧
  ((rf_all t false o w).1 ≠ 0 → (h9 0) 12 = -1 ∧ cl_La h9 17 (rf_law t o w).2.2 ∧ (h9 132) 1 = nI 0 ∧ ∀ i, i ≠ 0 ∧ i ≠ 1 ∧ (i < 17 ∨ 23 ≤ i) ∧ (i < 70 ∨ 76 ≤ i) ∧ i ≠ 132 → h9 i = h i)
def cl_wr (h h9 : am_H) (t o w : rf_W) : Prop := (h9 1) 1 = nI 0 ∧ (h9 0) 11 = (h 0) 11 ∧ ((rf_all t true o w).1 = 0 → (h9 0) 12 = nI (rf_b (rf_all t true o w).2.1) ∧ ∀ i, i ≠ 0 ∧ i ≠ 1 ∧ (i < 57 ∨ 93 ≤ i) ∧ i ≠ 130 → h9 i = h i) ∧
  ((rf_all t true o w).1 ≠ 0 → (rf_all t true o w).2.2 3 = nI 12 → (h9 0) 12 = -1 ∧ ∀ i, i ≠ 0 ∧ i ≠ 1 ∧ (i < 57 ∨ 93 ≤ i) ∧ i ≠ 130 → h9 i = h i) ∧
  ((rf_all t true o w).1 ≠ 0 → ¬ (rf_all t true o w).2.2 3 = nI 12 → (h9 0) 12 = -1 ∧ cl_Lo h9 4 (upd (rf_all t true o w).2.2 3 ((rf_all t true o w).2.2 3 + nI 1)) ∧ cl_Sc h9 25 (upd (rf_all t true o w).2.2 3 ((rf_all t true o w).2.2 3 + nI 1)) ∧ cl_La h9 17 (upd (rf_all t true o w).2.2 3 ((rf_all t true o w).2.2 3 + nI 1)) ∧ (h9 132) 1 = nI 0 ∧ ∀ i, i ≠ 0 ∧ i ≠ 1 ∧ (i < 4 ∨ 40 ≤ i) ∧ (i < 57 ∨ 93 ≤ i) ∧ i ≠ 130 ∧ i ≠ 132 → h9 i = h i)
theorem cl_Ln_0 {g c : am_H} {n : Nat} {w : rf_W} (F : ∀ i, i ≠ 0 ∧ i ≠ 1 → c i = g i) (L : cl_Ln g n w) : cl_Ln c n w := by
  rw [cl_Ln, F 70 (by decide), F 71 (by decide), F 72 (by decide), F 73 (by decide), F 74 (by decide)]; exact L
theorem cl_Ld_0 {g c : am_H} {n : Nat} {w : rf_W} (F : ∀ i, i ≠ 0 ∧ i ≠ 1 → c i = g i) (D : cl_Ld g n w) : cl_Ld c n w := by
  rw [cl_Ld, F 70 (by decide), F 75 (by decide)]; exact D
theorem rf_I_txt {w : rf_W} {v : Int32} (hI : rf_I w) (hv : rf_n v 13) : rf_I (upd w 3 v) := by
  have h : ∀ a, a ≠ 3 → upd w 3 v a = w a := fun a ha => rf_upd_ne ha
  have h3 : upd w 3 v 3 = v := rf_upd_eq
  generalize upd w 3 v = w' at h h3 ⊢
  obtain ⟨hC, hs, hm, ho, ⟨x3, x4, x6, x9⟩, ⟨p1, p2⟩, hf, hl⟩ := hI
  have eM : rf_M w' = rf_M w := by rw [rf_M, rf_M, h 0 (by omega)]
  have eS : rf_S w' = rf_S w := by rw [rf_S, rf_S, h 1 (by omega)]
  have eO : rf_O w' = rf_O w := by rw [rf_O, rf_O, h 2 (by omega)]
  have eF : rf_F w' = rf_F w := by rw [rf_F, rf_F, h 6 (by omega)]
  have eG : rf_G w' = rf_G w := by rw [rf_G, rf_G, h 9 (by omega)]
  refine ⟨rf_Cn_congr (fun a ha => h a (by omega)) hC, fun s hs' => ?_, fun m hm' => ?_, fun o ho' => ?_, ⟨rf_n_congr h3 hv, rf_n_congr (h 4 (by omega)) x4, rf_n_congr (h 6 (by omega)) x6, rf_n_congr (h 9 (by omega)) x9⟩, ⟨?_, ?_⟩, fun f hf' => ?_, fun a ha' => ?_⟩
  · rw [eS] at hs'
    exact rf_Is_congr (fun k hk => h _ (by omega)) eM (hs s hs')
  · rw [eM] at hm'
    obtain ⟨a1, a2, a3⟩ := hm m hm'
    exact ⟨rf_n_congr (h _ (by omega)) a1, by rw [rf_mem, h _ (by omega)]; exact a2, by rw [rf_mem, h _ (by omega), eM]; exact a3⟩
  · rw [eO] at ho'
    obtain ⟨a1, a2⟩ := ho o ho'
    exact ⟨by rw [eS]; exact rf_n_congr (h _ (by omega)) a1, by rw [rf_ord, h _ (by omega), eM]; exact a2⟩
  · rw [h 11 (by omega), eM]; exact p1
  · rw [h 12 (by omega), eM]; exact p2
  · rw [eF] at hf'
    obtain ⟨a1, a2, a3⟩ := hf f hf'
    exact ⟨by rw [eM]; exact rf_n_congr (h _ (by omega)) a1, rf_n_congr (h _ (by omega)) a2, by rw [eS]; exact rf_n_congr (h _ (by omega)) a3⟩
  · rw [eG] at ha'
    obtain ⟨a1, a2, a3⟩ := hl a ha'
    exact ⟨by rw [eS]; exact rf_n_congr (h _ (by omega)) a1, by rw [eS]; exact rf_n_congr (h _ (by omega)) a2, by rw [eM]; exact rf_n_congr (h _ (by omega)) a3⟩
theorem rf_mem_3 {w : rf_W} {v : Int32} {m k : Nat} : rf_mem (upd w 3 v) m k = rf_mem w m k := rf_upd_ne (by omega)
theorem cl_Lo_txt {g : am_H} {w : rf_W} {v : Int32} (L : cl_Lo g 57 w) : cl_Lo (am_row g 57 (upd (g 57) 0 v)) 57 (upd w 3 v) := by
  have m1 : ∀ o, o < 16 → rf_mem (upd w 3 v) o 1 = rf_mem w o 1 := fun o _ => rf_mem_3
  have eM : rf_M (upd w 3 v) = rf_M w := by rw [rf_M, rf_M, rf_upd_ne (by decide)]
  have eS : rf_S (upd w 3 v) = rf_S w := by rw [rf_S, rf_S, rf_upd_ne (by decide)]
  have eO : rf_O (upd w 3 v) = rf_O w := by rw [rf_O, rf_O, rf_upd_ne (by decide)]
  have eb : ∀ m, rf_bears (upd w 3 v) m = rf_bears w m := fun m => by
    rw [rf_bears, rf_bears, rf_mem_3]
    exact rf_bdn_congr m (fun o _ => rf_mem_3) _
  have er : ∀ m, rf_rests (upd w 3 v) m = rf_rests w m := fun m => by
    rw [rf_rests, rf_rests, eM]
    exact rf_set_congr _ (fun o _ => by rw [eb])
  have eo : ∀ s k, rf_of (upd w 3 v) s k = rf_of w s k := fun s k => rf_upd_ne (by omega)
  obtain ⟨⟨a0, a1, a2, a3⟩, am, as, ao, ap⟩ := L
  refine ⟨⟨by rw [am_row_at, rf_upd_eq, rf_upd_eq], by rw [am_row_at, rf_upd_ne (by decide), rf_upd_ne (by decide)]; exact a1, by rw [am_row_at, rf_upd_ne (by decide), rf_upd_ne (by decide)]; exact a2, by rw [am_row_at, rf_upd_ne (by decide), rf_upd_ne (by decide)]; exact a3⟩, fun m hm => ?_, fun s hs => ?_, fun o ho => ?_, ?_, ?_⟩
  · rw [eM] at hm
    obtain ⟨c1, c2, c3, c4, c5⟩ := am m hm
    exact ⟨by rw [am_row_ne _ _ _ (by omega), rf_mem_3]; exact c1, by rw [am_row_ne _ _ _ (by omega), rf_mem_3]; exact c2, by rw [am_row_ne _ _ _ (by omega), eb]; exact c3, by rw [am_row_ne _ _ _ (by omega), er]; exact c4, by rw [am_row_ne _ _ _ (by omega), rf_mem_3]; exact c5⟩
  · rw [eS] at hs
    obtain ⟨c1, c2, c3, c4⟩ := as s hs
    exact ⟨by rw [am_row_ne _ _ _ (by omega), eo]; exact c1, by rw [am_row_ne _ _ _ (by omega), eo]; exact c2, by rw [am_row_ne _ _ _ (by omega), eo]; exact c3, fun k hk => by rw [am_row_ne _ _ _ (by omega), eo]; exact c4 k (by rw [rf_ofn, eo] at hk; exact hk)⟩
  · rw [eO] at ho
    obtain ⟨c1, c2⟩ := ao o ho
    exact ⟨by rw [am_row_ne _ _ _ (by omega), rf_ord, rf_upd_ne (by omega)]; exact c1, by rw [am_row_ne _ _ _ (by omega), rf_ord, rf_upd_ne (by omega)]; exact c2⟩
  · rw [am_row_ne _ _ _ (by omega), rf_upd_ne (by decide)]; exact ap.1
  · rw [am_row_ne _ _ _ (by omega), rf_upd_ne (by decide)]; exact ap.2
theorem cl_Sc_txt {g : am_H} {w : rf_W} {v : Int32} {f : Nat → Int32} (hI : rf_I w) (S : cl_Sc g 78 w) : cl_Sc (am_row g 57 f) 78 (upd w 3 v) := by
  have hM : rf_M w < 17 := hI.1.1.2
  have eM : rf_M (upd w 3 v) = rf_M w := by rw [rf_M, rf_M, rf_upd_ne (by decide)]
  have eS : rf_S (upd w 3 v) = rf_S w := by rw [rf_S, rf_S, rf_upd_ne (by decide)]
  have hF : rf_F w < 41 := hI.2.2.2.2.1.2.2.1.2
  have hG : rf_G w < 61 := hI.2.2.2.2.1.2.2.2.2
  have eF : rf_F (upd w 3 v) = rf_F w := by rw [rf_F, rf_F, rf_upd_ne (by decide)]
  have eG : rf_G (upd w 3 v) = rf_G w := by rw [rf_G, rf_G, rf_upd_ne (by decide)]
  have eo : ∀ s k, rf_of (upd w 3 v) s k = rf_of w s k := fun s k => rf_upd_ne (by omega)
  have ro : ∀ i, 78 ≤ i → am_row g 57 f i = g i := fun i hi => am_row_ne _ _ _ (by omega)
  obtain ⟨⟨a0, a1, a2, a3, a4⟩, as, af, aG, al⟩ := S
  refine ⟨⟨by rw [ro 78 (by omega), rf_upd_ne (by decide)]; exact a0, by rw [ro 78 (by omega), rf_upd_ne (by decide)]; exact a1, by rw [ro 78 (by omega), rf_upd_ne (by decide)]; exact a2, by rw [ro 78 (by omega), rf_upd_ne (by decide)]; exact a3, by rw [ro 78 (by omega), rf_upd_ne (by decide)]; exact a4⟩, fun s hs => ?_, fun q hq => ?_, by rw [eG, rf_upd_ne (by decide)]; exact aG, fun a ha => ?_⟩
  · rw [eS] at hs
    exact cl_sS_c (h := g) (w := w) (b := 78) (hI.2.1 s hs) (fun k _ => eo s k) (rf_usable_c (fun o _ => rf_mem_3) eM hM) (by rw [ro _ (by omega)]) (by rw [ro _ (by omega)]) (by rw [ro _ (by omega)]) (by rw [ro _ (by omega)]) (by rw [ro _ (by omega)]) (fun k _ => by rw [ro _ (by omega)]) (as s hs)
  · rw [eF] at hq
    obtain ⟨c1, c2, c3⟩ := af q hq
    exact ⟨by rw [ro _ (by omega), rf_fld, rf_upd_ne (by omega)]; exact c1, by rw [ro _ (by omega), rf_fld, rf_upd_ne (by omega)]; exact c2, by rw [ro _ (by omega), rf_fld, rf_upd_ne (by omega)]; exact c3⟩
  · rw [eG] at ha
    obtain ⟨c1, c2, c3, c4, c5⟩ := al a ha
    have er : cl_row (upd w 3 v) a = cl_row w a := by rw [cl_row, cl_row, rf_upd_ne (by decide)]
    rw [er]
    exact ⟨by rw [ro _ (by omega), rf_log, rf_upd_ne (by omega)]; exact c1, by rw [ro _ (by omega), rf_log, rf_upd_ne (by omega)]; exact c2, by rw [ro _ (by omega), rf_log, rf_upd_ne (by omega)]; exact c3, by rw [ro _ (by omega), rf_log, rf_upd_ne (by omega)]; exact c4, by rw [ro _ (by omega), rf_log, rf_upd_ne (by omega)]; exact c5⟩
theorem rf_Lw_txt {w w2 : rf_W} {v : Int32} (E : rf_Ew w w2) (hL : rf_Lw w) : rf_Lw (upd w2 3 v) := rf_Lw_congr ((rf_upd_ne (by decide)).trans (E 4 (by omega))) (fun a ha => (rf_upd_ne (by omega)).trans (E a (by omega))) hL
theorem cl_La_txt {g : am_H} {w w2 : rf_W} {v : Int32} {f : Nat → Int32} (E : rf_Ew w w2) (A : cl_La g 70 w) : cl_La (am_row g 57 f) 70 (upd w2 3 v) := by
  have E4 : upd w2 3 v 4 = w 4 := (rf_upd_ne (by decide)).trans (E 4 (by omega))
  have Eh : ∀ a, 731 ≤ a → upd w2 3 v a = w a := fun a ha => (rf_upd_ne (by omega)).trans (E a (by omega))
  have A2 := cl_La_eq (h' := am_row g 57 f) (fun i a b => am_row_ne _ _ _ (by omega)) A
  generalize upd w2 3 v = w' at E4 Eh ⊢
  obtain ⟨l1, l2⟩ := A2
  refine ⟨fun h0 => l1 (by rw [← E4]; exact h0), fun h0 => ?_⟩
  rw [E4] at h0
  obtain ⟨k1, k2⟩ := l2 h0
  refine ⟨by rw [Eh 731 (by omega)]; exact k1, fun n hn => ?_⟩
  rw [Eh 731 (by omega)] at hn
  obtain ⟨c1, c2, c3, c4, c5⟩ := k2 n hn
  have f2 := Eh (732 + 4 * n + 2) (by omega)
  have f3 := Eh (732 + 4 * n + 3) (by omega)
  refine ⟨by rw [Eh _ (by omega)]; exact c1, by rw [Eh _ (by omega)]; exact c2, by rw [f2]; exact c3, by rw [f3]; exact c4, fun i h1 h2 => ?_⟩
  rw [f2] at h1
  rw [f3] at h2
  rw [c5 i h1 h2, cl_op, cl_op, rf_sc, rf_sc, Eh (780 + 2 * i) (by omega), Eh (780 + 2 * i + 1) (by omega)]
end M56

set_option maxHeartbeats 400000 in
set_option maxRecDepth 100000 in
theorem c_X11_closeText {ad : Nat → Nat} {r : am_R} (hR : am_rs r) {h : am_H} (b : Bool)   : am_CM mX11_closeText 7 0 0 [.ref 0, .int (am_b b)] (am_VV ad) r h (am_pr none r (fun c9 => (c9 0) 12 = (bif b then (-1) else (h 1) 3) ∧ (c9 1) 1 = nI 0 ∧ (c9 0) 11 = (h 0) 11 ∧ ∀ i, i ≠ 0 ∧ i ≠ 1 → c9 i = h i)) := by
  refine am_CM.of (by decide +kernel) (Nat.le_of_ble_eq_true rfl) (fun X C T => ?_)
  show am_G X (am_VV ad) (0, 0) 0 [(0, .ref 0), (1, .int (am_b b))] [] r h
  refine am_aload_n (pc := 0) C dX11_closeText_0 rfl ?_
  refine am_iload_n (pc := 1) C dX11_closeText_1 rfl ?_
  refine am_if_eqB (pc := 2) (tgt := 9) C dX11_closeText_2 (by decide) (fun q2 => ?_) (fun q2 => ?_)
  · skip
    refine am_aload_n (pc := 9) C dX11_closeText_9 rfl ?_
    refine am_getR (pc := 10) (j := 1) C dX11_closeText_10 f11_10 bn_0 sh_0 (rf_0_0 hR) ?_
    refine am_getI (pc := 13) C dX11_closeText_13 f11_147 bn_1 sh_1 ?_
    refine am_putI (pc := 16) C dX11_closeText_16 f11_100 bn_0 sh_0 rfl rfl ?_
    refine am_hp (show am_up h 0 12 ((h 1) 3) = am_row h 0 (upd (h 0) 12 ((h 1) 3)) from am_up_rw _ _ _ _) ?_
    refine am_aload_n (pc := 19) C dX11_closeText_19 rfl ?_
    refine am_getR (pc := 20) (j := 1) C dX11_closeText_20 f11_10 bn_0 sh_0 (rf_0_0 hR) ?_
    refine am_iconstN (pc := 23) (k := 0) C dX11_closeText_23 ?_
    refine am_putI (pc := 24) C dX11_closeText_24 f11_104 bn_1 sh_1 rfl rfl ?_
    refine am_hp (show am_up (am_row h 0 (upd (h 0) 12 ((h 1) 3))) 1 1 (nI 0) = am_row (am_row h 0 (upd (h 0) 12 ((h 1) 3))) 1 (upd (h 1) 1 (nI 0)) from am_up_rw _ _ _ _) ?_
    exact am_vretvr T dX11_closeText_27 rfl (Nat.le_refl _) (Nat.le_refl _) rfl (by rw [q2]; exact cl_closed h ((h 1) 3))
  · skip
    refine am_iconst (pc := 5) (v := -1) C dX11_closeText_5 rfl ?_
    refine am_goto (pc := 6) (tgt := 16) C dX11_closeText_6 (by decide) ?_
    refine am_putI (pc := 16) C dX11_closeText_16 f11_100 bn_0 sh_0 rfl rfl ?_
    refine am_hp (show am_up h 0 12 (-1) = am_row h 0 (upd (h 0) 12 (-1)) from am_up_rw _ _ _ _) ?_
    refine am_aload_n (pc := 19) C dX11_closeText_19 rfl ?_
    refine am_getR (pc := 20) (j := 1) C dX11_closeText_20 f11_10 bn_0 sh_0 (rf_0_0 hR) ?_
    refine am_iconstN (pc := 23) (k := 0) C dX11_closeText_23 ?_
    refine am_putI (pc := 24) C dX11_closeText_24 f11_104 bn_1 sh_1 rfl rfl ?_
    refine am_hp (show am_up (am_row h 0 (upd (h 0) 12 (-1))) 1 1 (nI 0) = am_row (am_row h 0 (upd (h 0) 12 (-1))) 1 (upd (h 1) 1 (nI 0)) from am_up_rw _ _ _ _) ?_
    exact am_vretvr T dX11_closeText_27 rfl (Nat.le_refl _) (Nat.le_refl _) rfl (by rw [q2]; exact cl_closed h (-1))

set_option maxHeartbeats 400000 in
set_option maxRecDepth 100000 in
theorem c_X11_law {ad : Nat → Nat} {r : am_R} (hR : am_rs r) {h : am_H}  (w : rf_W) (hV : rf_I w) (hLo : cl_Lo (h) 4 w) (hSc : cl_Sc (h) 25 w) (t : rf_W) (oc : rf_W) (hOb : rf_Ob oc) (hz : (h 1) 1 = oc 9) (hby : cl_by (h 2) t (rf_nat (oc 9)))  : am_XM mX11_law 51 1 6 [.ref 0] (am_VV ad) r h (ex_ret (rf_cL t oc w) ((rf_law t oc w).1) (fun r9 h9 => r9 = r ∧ cl_lw h h9 t oc w)) (ex_thr ["java/lang/IllegalArgumentException"] (rf_cL t oc w) (fun r9 h9 => r9 = r ∧ cl_lw h h9 t oc w)) := by
  refine am_XM.of (by decide +kernel) (Nat.le_of_ble_eq_true rfl) (by decide) (fun X C T TX => ?_)
  show am_G X (am_VV ad) (0, 0) 0 [(0, .ref 0)] [] r h
  have hM9 : rf_M w < 17 := hV.1.1.2
  have hS9 : rf_S w < 11 := hV.1.2.1.2
  have hO9 : rf_O w < 11 := hV.1.2.2.2
  refine am_aload_n (pc := 0) C dX11_law_0 rfl ?_
  refine am_getR (pc := 1) (j := 131) C dX11_law_1 f11_62 bn_0 sh_0 (rf_0_6 hR) ?_
  refine am_callVir (Y := mX2_readAll) (pc := 4) (st := []) (As := []) (x := (am_b (decide ((rf_all t false oc w).1 ≠ 0)))) (PP := fun c9 => cl_AL (h) c9 (rf_all t false oc w)) C dX11_law_4 k11_138 v_X2_readAll rfl rfl bn_131 sh_131 ⟨by decide, rfl⟩ (by decide) (Nat.le_of_ble_eq_true rfl) (Nat.le_of_ble_eq_true rfl) (Nat.le_of_ble_eq_true rfl) (c_X2_readAll (h := h) hR t oc w (show rf_Ob oc from hOb) (show (h 1) 1 = oc 9 from hz) (show cl_by (h 2) t (rf_nat (oc 9)) from hby)) (fun g4_0 hg4_0 => ?_)
  obtain ⟨A4, B4, F4⟩ := hg4_0
  refine am_istore_n (pc := 7) (ls' := [(0, .ref 0), (1, .int (am_b (decide ((rf_all t false oc w).1 ≠ 0))))]) C dX11_law_7 (by decide) rfl ?_
  refine am_aload_n (pc := 8) C dX11_law_8 rfl ?_
  refine am_iload_n (pc := 9) C dX11_law_9 rfl ?_
  refine am_callVvr (Y := mX11_closeText) (pc := 10) (st := []) (As := [.int (am_b (decide ((rf_all t false oc w).1 ≠ 0)))]) (PP := fun c9 => (c9 0) 12 = (bif (decide ((rf_all t false oc w).1 ≠ 0)) then (-1) else (g4_0 1) 3) ∧ (c9 1) 1 = nI 0 ∧ (c9 0) 11 = (g4_0 0) 11 ∧ ∀ i, i ≠ 0 ∧ i ≠ 1 → c9 i = g4_0 i) C dX11_law_10 k11_118 v_X11_closeText rfl rfl bn_0 sh_0 ⟨by decide, rfl⟩ (by decide) (Nat.le_of_ble_eq_true rfl) (Nat.le_of_ble_eq_true rfl) (Nat.le_of_ble_eq_true rfl) (c_X11_closeText (h := g4_0) hR (decide ((rf_all t false oc w).1 ≠ 0))) (fun g10_1 hg10_1 => ?_)
  obtain ⟨T1, T2, T3, F10⟩ := hg10_1
  refine am_iload_n (pc := 13) C dX11_law_13 rfl ?_
  refine am_if_neB (pc := 14) (tgt := 27) C dX11_law_14 (by decide) (fun q14 => ?_) (fun q14 => ?_)
  · skip
    have q9n : (rf_all t false oc w).1 ≠ 0 := of_decide_eq_true q14
    obtain ⟨n, hN, hn, Ln, Ld, Dl, hTe⟩ := A4 q9n
    have hee := cl_Ta_e hTe
    refine am_aload_n (pc := 27) C dX11_law_27 rfl ?_
    refine am_getR (pc := 28) (j := 3) C dX11_law_28 f11_27 bn_0 sh_0 (rf_0_1 hR) ?_
    refine am_getR (pc := 31) (j := 17) C dX11_law_31 f11_35 bn_3 sh_3 (rf_3_1 hR) ?_
    refine am_aload_n (pc := 34) C dX11_law_34 rfl ?_
    refine am_getR (pc := 35) (j := 56) C dX11_law_35 f11_42 bn_0 sh_0 (rf_0_3 hR) ?_
    refine am_getR (pc := 38) (j := 70) C dX11_law_38 f11_35 bn_56 sh_56 (rf_56_1 hR) ?_
    refine am_callVvr (Y := mX1_copyFrom) (pc := 41) (st := []) (As := [.ref 70]) (PP := fun c9 => cl_La c9 17 (rf_lawW (rf_all t false oc w).2.2 (n + 1)) ∧ cl_fr (g10_1) c9 17 6) C dX11_law_41 k11_141 v_X1_copyFrom rfl rfl bn_17 sh_17 ⟨by decide, rfl⟩ (by decide) (Nat.le_of_ble_eq_true rfl) (Nat.le_of_ble_eq_true rfl) (Nat.le_of_ble_eq_true rfl) (c_X1_copyFrom_nd (h := g10_1) hR (rf_lawW (rf_all t false oc w).2.2 (n + 1)) (show rf_Lw (rf_lawW (rf_all t false oc w).2.2 (n + 1)) from (rf_L_lawW hn (by omega) Dl).1) (show cl_La (g10_1) 70 (rf_lawW (rf_all t false oc w).2.2 (n + 1)) from (cl_La_lawW hn (by omega) (cl_Ln_0 F10 Ln) (cl_Ld_0 F10 Ld) Dl))) (fun g41_2 hg41_2 => ?_)
    obtain ⟨A41, F41⟩ := hg41_2
    refine am_aload_n (pc := 44) C dX11_law_44 rfl ?_
    refine am_getR (pc := 45) (j := 132) C dX11_law_45 f11_69 bn_0 sh_0 (rf_0_7 hR) ?_
    refine am_iconstN (pc := 48) (k := 0) C dX11_law_48 ?_
    refine am_putI (pc := 49) C dX11_law_49 f11_137 bn_132 sh_132 rfl rfl ?_
    refine am_hp (show am_up g41_2 132 1 (nI 0) = am_row g41_2 132 (upd (g41_2 132) 1 (nI 0)) from am_up_rw _ _ _ _) ?_
    refine am_aload_n (pc := 52) C dX11_law_52 rfl ?_
    refine am_getR (pc := 53) (j := 3) C dX11_law_53 f11_27 bn_0 sh_0 (rf_0_1 hR) ?_
    refine am_getR (pc := 56) (j := 17) C dX11_law_56 f11_35 bn_3 sh_3 (rf_3_1 hR) ?_
    refine am_getI (pc := 59) C dX11_law_59 f11_144 bn_17 sh_17 ?_
    refine am_top (show ((g41_2 17) 0) = (am_oi ((rf_all t false oc w).1)) from (by rw [hN]; exact (A41.2 (by rw [rf_lawW_4, rf_nat_nI (by decide)]; decide)).1.trans rf_lawW_731)) ?_
    have K9 : rf_cL t oc w = 0 := (show rf_cL t oc w = 0 from by simp only [rf_cL, rf_cb, (cl_dn q14), Bool.not_true, Bool.not_false, cond_true, cond_false])
    have A9 : (rf_law t oc w).1 = (am_oi ((rf_all t false oc w).1)) := (by rw [rf_law, if_neg q9n])
    exact am_iret T dX11_law_62 rfl rfl (Nat.le_of_ble_eq_true rfl) (Nat.le_of_ble_eq_true rfl) ⟨K9, by rw [A9], ⟨rfl, by rw [am_row_ne _ _ _ (by decide), F41 1 (by omega)]; exact T2, by rw [am_row_ne _ _ _ (by decide), F41 0 (by omega), T3]; exact congrArg (fun f => f 11) (F4 0 (by omega)), fun z => absurd z q9n, fun _ => ⟨by rw [am_row_ne _ _ _ (by decide), F41 0 (by omega), T1, q14]; rfl, by rw [rf_law, if_neg q9n, hN]; exact cl_La_eq (fun i a b => am_row_ne _ _ _ (by omega)) A41, by rw [am_row_at, rf_upd_eq], fun i h9 => by rw [am_row_ne _ _ _ (by omega), F41 i (by omega), F10 i (by omega)]; exact F4 i (by omega)⟩⟩⟩
  · skip
    exact (TX "java/lang/IllegalArgumentException" r g10_1 ⟨0, (show rf_cL t oc w = 1 from by simp only [rf_cL, rf_cb, (cl_dz q14), Bool.not_true, Bool.not_false, cond_true, cond_false]), rfl, ⟨rfl, T2, T3.trans (congrArg (fun f => f 11) (F4 0 (by omega))), fun _ => ⟨by rw [T1, q14]; exact B4 (cl_dnf q14), fun i h9 => (F10 i (by omega)).trans (F4 i (by omega))⟩, fun z => absurd (cl_dnf q14) z⟩⟩ (0, 0) 17 [(0, .ref 0), (1, .int (am_b (decide ((rf_all t false oc w).1 ≠ 0))))] (Nat.le_of_ble_eq_true rfl) (Nat.le_of_ble_eq_true rfl)).2 (Nat.le_of_ble_eq_true rfl) (Nat.le_of_ble_eq_true rfl) ⟨rfl, 122, 139, 126, 24, 23, "a wrong text of the law", ex_ok_IA, ⟨List.mem_of_getElem? (i := 25) rfl, by decide⟩, dX11_law_17, dX11_law_20, Or.inl ⟨dX11_law_21, rfl⟩, dX11_law_23, dX11_law_26⟩ [] (by decide)

set_option maxHeartbeats 400000 in
set_option maxRecDepth 100000 in
theorem c_X11_war {ad : Nat → Nat} {r : am_R} (hR : am_rs r) {h : am_H}  (w : rf_W) (hV : rf_I w) (hLo : cl_Lo (h) 4 w) (hSc : cl_Sc (h) 25 w) (t : rf_W) (oc : rf_W) (hOb : rf_Ob oc) (hz : (h 1) 1 = oc 9) (hby : cl_by (h 2) t (rf_nat (oc 9))) (hLw : rf_Lw w) (hA : cl_La (h) 17 w)  : am_XM mX11_war 11 1 6 [.ref 0] (am_VV ad) r h (ex_ret (rf_cW t oc w) ((rf_war t oc w w).1) (fun r9 h9 => r9 = r ∧ cl_wr h h9 t oc w)) (ex_thr ["java/lang/IllegalArgumentException", "java/lang/UnsupportedOperationException"] (rf_cW t oc w) (fun r9 h9 => r9 = r ∧ cl_wr h h9 t oc w)) := by
  refine am_XM.of (by decide +kernel) (Nat.le_of_ble_eq_true rfl) (by decide) (fun X C T TX => ?_)
  show am_G X (am_VV ad) (0, 0) 0 [(0, .ref 0)] [] r h
  have hM9 : rf_M w < 17 := hV.1.1.2
  have hS9 : rf_S w < 11 := hV.1.2.1.2
  have hO9 : rf_O w < 11 := hV.1.2.2.2
  have h3n : rf_n (w 3) 13 := hV.2.2.2.2.1.1
  have h3b : rf_nat (w 3) < 13 := h3n.2
  refine am_aload_n (pc := 0) C dX11_war_0 rfl ?_
  refine am_getR (pc := 1) (j := 56) C dX11_war_1 f11_42 bn_0 sh_0 (rf_0_3 hR) ?_
  refine am_aload_n (pc := 4) C dX11_war_4 rfl ?_
  refine am_getR (pc := 5) (j := 3) C dX11_war_5 f11_27 bn_0 sh_0 (rf_0_1 hR) ?_
  refine am_callVvr (Y := mX10_copyFrom) (pc := 8) (st := []) (As := [.ref 3]) (PP := fun c9 => cl_Lo c9 57 w ∧ cl_La c9 70 w ∧ cl_Sc c9 78 w ∧ cl_fr (h) c9 57 36) C dX11_war_8 k11_111 v_X10_copyFrom rfl rfl bn_56 sh_56 ⟨by decide, rfl⟩ (by decide) (Nat.le_of_ble_eq_true rfl) (Nat.le_of_ble_eq_true rfl) (Nat.le_of_ble_eq_true rfl) (c_X10_copyFrom (h := h) hR w (show rf_I w from hV) (show cl_Lo (h) 4 w from hLo) (show cl_Sc (h) 25 w from hSc) (show rf_Lw w from hLw) (show cl_La (h) 17 w from hA)) (fun g8_0 hg8_0 => ?_)
  obtain ⟨L8, A8, S8, F8⟩ := hg8_0
  refine am_aload_n (pc := 11) C dX11_war_11 rfl ?_
  refine am_getR (pc := 12) (j := 130) C dX11_war_12 f11_53 bn_0 sh_0 (rf_0_5 hR) ?_
  refine am_callVir (Y := mX9_readAll) (pc := 15) (st := []) (As := []) (x := (am_b (decide ((rf_all t true oc w).1 ≠ 0)))) (PP := fun c9 => cl_AW (g8_0) c9 w (rf_all t true oc w)) C dX11_war_15 k11_114 v_X9_readAll rfl rfl bn_130 sh_130 ⟨by decide, rfl⟩ (by decide) (Nat.le_of_ble_eq_true rfl) (Nat.le_of_ble_eq_true rfl) (Nat.le_of_ble_eq_true rfl) (c_X9_readAll (h := g8_0) hR t oc (show rf_Ob oc from hOb) (show (g8_0 1) 1 = oc 9 from (by rw [F8 1 (by omega)]; exact hz)) (show cl_by (g8_0 2) t (rf_nat (oc 9)) from (by rw [F8 2 (by omega)]; exact hby)) w (show rf_I w from hV) (show cl_Lo (g8_0) 57 w from L8) (show cl_Sc (g8_0) 78 w from S8)) (fun g15_1 hg15_1 => ?_)
  obtain ⟨A15, B15, F15⟩ := hg15_1
  refine am_istore_n (pc := 18) (ls' := [(0, .ref 0), (1, .int (am_b (decide ((rf_all t true oc w).1 ≠ 0))))]) C dX11_war_18 (by decide) rfl ?_
  refine am_aload_n (pc := 19) C dX11_war_19 rfl ?_
  refine am_iload_n (pc := 20) C dX11_war_20 rfl ?_
  refine am_callVvr (Y := mX11_closeText) (pc := 21) (st := []) (As := [.int (am_b (decide ((rf_all t true oc w).1 ≠ 0)))]) (PP := fun c9 => (c9 0) 12 = (bif (decide ((rf_all t true oc w).1 ≠ 0)) then (-1) else (g15_1 1) 3) ∧ (c9 1) 1 = nI 0 ∧ (c9 0) 11 = (g15_1 0) 11 ∧ ∀ i, i ≠ 0 ∧ i ≠ 1 → c9 i = g15_1 i) C dX11_war_21 k11_118 v_X11_closeText rfl rfl bn_0 sh_0 ⟨by decide, rfl⟩ (by decide) (Nat.le_of_ble_eq_true rfl) (Nat.le_of_ble_eq_true rfl) (Nat.le_of_ble_eq_true rfl) (c_X11_closeText (h := g15_1) hR (decide ((rf_all t true oc w).1 ≠ 0))) (fun g21_2 hg21_2 => ?_)
  obtain ⟨T1, T2, T3, F21⟩ := hg21_2
  have W21 : ∀ i, i ≠ 0 ∧ i ≠ 1 ∧ (i < 57 ∨ 93 ≤ i) ∧ i ≠ 130 → g21_2 i = h i := fun i h9 => (F21 i (by omega)).trans ((F15 i (by omega)).trans (F8 i (by omega)))
  have e11 := congrArg (fun f => f 11) ((F15 0 (by omega)).trans (F8 0 (by omega)))
  refine am_iload_n (pc := 24) C dX11_war_24 rfl ?_
  refine am_if_neB (pc := 25) (tgt := 38) C dX11_war_25 (by decide) (fun q25 => ?_) (fun q25 => ?_)
  · skip
    have q9n : (rf_all t true oc w).1 ≠ 0 := of_decide_eq_true q25
    obtain ⟨L15, S15, I15, E15⟩ := A15 q9n
    have e3 : (rf_all t true oc w).2.2 3 = w 3 := E15 3 (by omega)
    refine am_aload_n (pc := 38) C dX11_war_38 rfl ?_
    refine am_getR (pc := 39) (j := 3) C dX11_war_39 f11_27 bn_0 sh_0 (rf_0_1 hR) ?_
    refine am_getR (pc := 42) (j := 4) C dX11_war_42 f11_31 bn_3 sh_3 (rf_3_0 hR) ?_
    refine am_getI (pc := 45) C dX11_war_45 f11_129 bn_4 sh_4 ?_
    refine am_top (show ((g21_2 4) 0) = (nI (rf_nat (w 3))) from (by rw [F21 4 (by omega), F15 4 (by omega), F8 4 (by omega)]; exact hLo.1.1.trans h3n.1)) ?_
    refine am_bipush (pc := 48) (v := nI 12) C dX11_war_48 (by decide) ?_
    refine am_icmp_ltN (pc := 50) (tgt := 63) C dX11_war_50 (by decide) (by omega) (by omega) (fun q50 => ?_) (fun q50 => ?_)
    · skip
      have q12n : ¬ (rf_all t true oc w).2.2 3 = nI 12 := fun z => by rw [e3, h3n.1] at z; have := (nI_eq (by omega) (by decide)).mp z; omega
      have h3v : rf_n ((rf_all t true oc w).2.2 3 + nI 1) 13 := by rw [e3, h3n.1, nI_add]; exact rf_n_mk (by omega) (by omega)
      have L21 := cl_Lo_eq (fun i a b => F21 i (by omega)) L15
      have S21 := cl_Sc_eq (fun i a b => F21 i (by omega)) S15
      have A21 := cl_La_eq (fun i a b => (F21 i (by omega)).trans (F15 i (by omega))) A8
      refine am_aload_n (pc := 63) C dX11_war_63 rfl ?_
      refine am_getR (pc := 64) (j := 56) C dX11_war_64 f11_42 bn_0 sh_0 (rf_0_3 hR) ?_
      refine am_getR (pc := 67) (j := 57) C dX11_war_67 f11_31 bn_56 sh_56 (rf_56_0 hR) ?_
      refine am_dup (pc := 70) C dX11_war_70 rfl ?_
      refine am_getI (pc := 71) C dX11_war_71 f11_129 bn_57 sh_57 ?_
      refine am_top (show ((g21_2 57) 0) = ((rf_all t true oc w).2.2 3) from L21.1.1) ?_
      refine am_iconstN (pc := 74) (k := 1) C dX11_war_74 ?_
      refine am_iadd (pc := 75) C dX11_war_75 ?_
      refine am_putI (pc := 76) C dX11_war_76 f11_129 bn_57 sh_57 rfl rfl ?_
      refine am_hp (show am_up g21_2 57 0 (((rf_all t true oc w).2.2 3) + (nI 1)) = am_row g21_2 57 (upd (g21_2 57) 0 (((rf_all t true oc w).2.2 3) + (nI 1))) from am_up_rw _ _ _ _) ?_
      refine am_aload_n (pc := 79) C dX11_war_79 rfl ?_
      refine am_getR (pc := 80) (j := 3) C dX11_war_80 f11_27 bn_0 sh_0 (rf_0_1 hR) ?_
      refine am_aload_n (pc := 83) C dX11_war_83 rfl ?_
      refine am_getR (pc := 84) (j := 56) C dX11_war_84 f11_42 bn_0 sh_0 (rf_0_3 hR) ?_
      refine am_callVvr (Y := mX10_copyFrom) (pc := 87) (st := []) (As := [.ref 56]) (PP := fun c9 => cl_Lo c9 4 (upd (rf_all t true oc w).2.2 3 ((rf_all t true oc w).2.2 3 + nI 1)) ∧ cl_La c9 17 (upd (rf_all t true oc w).2.2 3 ((rf_all t true oc w).2.2 3 + nI 1)) ∧ cl_Sc c9 25 (upd (rf_all t true oc w).2.2 3 ((rf_all t true oc w).2.2 3 + nI 1)) ∧ cl_fr ((am_row g21_2 57 (upd (g21_2 57) 0 (((rf_all t true oc w).2.2 3) + (nI 1))))) c9 4 36) C dX11_war_87 k11_111 v_X10_copyFrom rfl rfl bn_3 sh_3 ⟨by decide, rfl⟩ (by decide) (Nat.le_of_ble_eq_true rfl) (Nat.le_of_ble_eq_true rfl) (Nat.le_of_ble_eq_true rfl) (c_X10_copyFrom_nd (h := (am_row g21_2 57 (upd (g21_2 57) 0 (((rf_all t true oc w).2.2 3) + (nI 1))))) hR (upd (rf_all t true oc w).2.2 3 ((rf_all t true oc w).2.2 3 + nI 1)) (show rf_I (upd (rf_all t true oc w).2.2 3 ((rf_all t true oc w).2.2 3 + nI 1)) from (rf_I_txt I15 h3v)) (show cl_Lo ((am_row g21_2 57 (upd (g21_2 57) 0 (((rf_all t true oc w).2.2 3) + (nI 1))))) 57 (upd (rf_all t true oc w).2.2 3 ((rf_all t true oc w).2.2 3 + nI 1)) from (cl_Lo_txt L21)) (show cl_Sc ((am_row g21_2 57 (upd (g21_2 57) 0 (((rf_all t true oc w).2.2 3) + (nI 1))))) 78 (upd (rf_all t true oc w).2.2 3 ((rf_all t true oc w).2.2 3 + nI 1)) from (cl_Sc_txt I15 S21)) (show rf_Lw (upd (rf_all t true oc w).2.2 3 ((rf_all t true oc w).2.2 3 + nI 1)) from (rf_Lw_txt E15 hLw)) (show cl_La ((am_row g21_2 57 (upd (g21_2 57) 0 (((rf_all t true oc w).2.2 3) + (nI 1))))) 70 (upd (rf_all t true oc w).2.2 3 ((rf_all t true oc w).2.2 3 + nI 1)) from (cl_La_txt E15 A21))) (fun g87_3 hg87_3 => ?_)
      obtain ⟨L87, A87, S87, F87⟩ := hg87_3
      refine am_aload_n (pc := 90) C dX11_war_90 rfl ?_
      refine am_getR (pc := 91) (j := 132) C dX11_war_91 f11_69 bn_0 sh_0 (rf_0_7 hR) ?_
      refine am_iconstN (pc := 94) (k := 0) C dX11_war_94 ?_
      refine am_putI (pc := 95) C dX11_war_95 f11_137 bn_132 sh_132 rfl rfl ?_
      refine am_hp (show am_up g87_3 132 1 (nI 0) = am_row g87_3 132 (upd (g87_3 132) 1 (nI 0)) from am_up_rw _ _ _ _) ?_
      refine am_aload_n (pc := 98) C dX11_war_98 rfl ?_
      refine am_getR (pc := 99) (j := 3) C dX11_war_99 f11_27 bn_0 sh_0 (rf_0_1 hR) ?_
      refine am_getR (pc := 102) (j := 4) C dX11_war_102 f11_31 bn_3 sh_3 (rf_3_0 hR) ?_
      refine am_getI (pc := 105) C dX11_war_105 f11_129 bn_4 sh_4 ?_
      refine am_top (show ((g87_3 4) 0) = ((upd (rf_all t true oc w).2.2 3 ((rf_all t true oc w).2.2 3 + nI 1)) 3) from L87.1.1) ?_
      have K9 : rf_cW t oc w = 0 := (show rf_cW t oc w = 0 from by simp only [rf_cW, rf_cb, (cl_dn q25), (decide_eq_false q12n), Bool.not_true, Bool.not_false, cond_true, cond_false])
      have A9 : (rf_war t oc w w).1 = ((upd (rf_all t true oc w).2.2 3 ((rf_all t true oc w).2.2 3 + nI 1)) 3) := (by rw [rf_war, if_neg q9n, if_neg q12n]; exact rf_upd_eq.symm)
      exact am_iret T dX11_war_108 rfl rfl (Nat.le_of_ble_eq_true rfl) (Nat.le_of_ble_eq_true rfl) ⟨K9, by rw [A9], ⟨rfl, by rw [am_row_ne _ _ _ (by decide), F87 1 (by omega), am_row_ne _ _ _ (by decide)]; exact T2, by rw [am_row_ne _ _ _ (by decide), F87 0 (by omega), am_row_ne _ _ _ (by decide)]; exact T3.trans e11, fun z => absurd z q9n, fun _ z => absurd z q12n, fun _ _ => ⟨by rw [am_row_ne _ _ _ (by decide), F87 0 (by omega), am_row_ne _ _ _ (by decide), T1, q25]; rfl, cl_Lo_eq (fun i a b => am_row_ne _ _ _ (by omega)) L87, cl_Sc_eq (fun i a b => am_row_ne _ _ _ (by omega)) S87, cl_La_eq (fun i a b => am_row_ne _ _ _ (by omega)) A87, by rw [am_row_at, rf_upd_eq], fun i h9 => by rw [am_row_ne _ _ _ (by omega), F87 i (by omega), am_row_ne _ _ _ (by omega)]; exact W21 i (by omega)⟩⟩⟩
    · skip
      have q12 : (rf_all t true oc w).2.2 3 = nI 12 := by rw [e3, h3n.1]; exact congrArg nI (by omega)
      exact (TX "java/lang/UnsupportedOperationException" r g21_2 ⟨1, (show rf_cW t oc w = 2 from by simp only [rf_cW, rf_cb, (cl_dn q25), (decide_eq_true q12), Bool.not_true, Bool.not_false, cond_true, cond_false]), rfl, ⟨rfl, T2, T3.trans e11, fun z => absurd z q9n, fun _ _ => ⟨by rw [T1, q25]; rfl, W21⟩, fun _ z => absurd q12 z⟩⟩ (0, 0) 53 [(0, .ref 0), (1, .int (am_b (decide ((rf_all t true oc w).1 ≠ 0))))] (Nat.le_of_ble_eq_true rfl) (Nat.le_of_ble_eq_true rfl)).2 (Nat.le_of_ble_eq_true rfl) (Nat.le_of_ble_eq_true rfl) ⟨rfl, 132, 134, 136, 9, 59, "there are 12 texts of the war", ex_ok_UO, ⟨List.mem_of_getElem? (i := 9) rfl, by decide⟩, dX11_war_53, dX11_war_56, Or.inl ⟨dX11_war_57, rfl⟩, dX11_war_59, dX11_war_62⟩ [] (by decide)
  · skip
    exact (TX "java/lang/IllegalArgumentException" r g21_2 ⟨0, (show rf_cW t oc w = 1 from by simp only [rf_cW, rf_cb, (cl_dz q25), Bool.not_true, Bool.not_false, cond_true, cond_false]), rfl, ⟨rfl, T2, T3.trans e11, fun _ => ⟨by rw [T1, q25]; exact B15 (cl_dnf q25), W21⟩, fun z => absurd (cl_dnf q25) z, fun z => absurd (cl_dnf q25) z⟩⟩ (0, 0) 28 [(0, .ref 0), (1, .int (am_b (decide ((rf_all t true oc w).1 ≠ 0))))] (Nat.le_of_ble_eq_true rfl) (Nat.le_of_ble_eq_true rfl)).2 (Nat.le_of_ble_eq_true rfl) (Nat.le_of_ble_eq_true rfl) ⟨rfl, 122, 124, 126, 8, 34, "a wrong text of the war", ex_ok_IA, ⟨List.mem_of_getElem? (i := 8) rfl, by decide⟩, dX11_war_28, dX11_war_31, Or.inl ⟨dX11_war_32, rfl⟩, dX11_war_34, dX11_war_37⟩ [] (by decide)

