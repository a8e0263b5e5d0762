/-! WHAT THE REFERENCE COMPUTES, second part: what is asked of a world; the invariants together; rows for the JDK's numbers -/
section SPEC2
theorem am_dnI (a : Nat) : nI a + Int32.ofInt (-1) = nI a - nI 1 := by rw [Int32.sub_eq_add_neg]; rfl
def rf_Im (w : rf_W) (m : Nat) : Prop := rf_n (rf_mem w m 0) 100 ∧ am_lo (rf_mem w m 1) m ∧ am_lo (rf_mem w m 2) (rf_M w)
def rf_Io (w : rf_W) (o : Nat) : Prop := rf_n (rf_ord w o 0) (rf_S w) ∧ am_lo (rf_ord w o 1) (rf_M w)
def rf_If (w : rf_W) (f : Nat) : Prop := rf_n (rf_fld w f 0) (rf_M w) ∧ rf_n (rf_fld w f 1) 8 ∧ rf_n (rf_fld w f 2) (rf_S w)
def rf_Il (w : rf_W) (a : Nat) : Prop := rf_n (rf_log w a 1) (rf_S w) ∧ rf_n (rf_log w a 2) (rf_S w) ∧ rf_n (rf_log w a 3) (rf_M w)
def rf_F (w : rf_W) : Nat := rf_nat (w 6)
def rf_G (w : rf_W) : Nat := rf_nat (w 9)
def rf_Ix (w : rf_W) : Prop := (rf_n (w 3) 13 ∧ rf_n (w 4) 2 ∧ rf_n (w 6) 41 ∧ rf_n (w 9) 61) ∧ (am_lo (w 11) (rf_M w) ∧ am_lo (w 12) (rf_M w)) ∧ (∀ f, f < rf_F w → rf_If w f) ∧ (∀ a, a < rf_G w → rf_Il w a)
def rf_I (w : rf_W) : Prop := rf_Cn w ∧ (∀ s, s < rf_S w → rf_Is w s) ∧ (∀ m, m < rf_M w → rf_Im w m) ∧ (∀ o, o < rf_O w → rf_Io w o) ∧ rf_Ix w
theorem rf_set_t {p : Nat → Bool} {n : Nat} (h : p n = true) : rf_set p n ||| (nI 1 <<< (nI n &&& 31)) = rf_set p (n + 1) := by rw [rf_set, if_pos h]
theorem rf_set_f {p : Nat → Bool} {n : Nat} (h : p n = false) : rf_set p n ||| nI 0 = rf_set p (n + 1) := by rw [rf_set, if_neg (by rw [h]; exact Bool.false_ne_true)]
theorem rf_usa_t {w : rf_W} {k : Int32} {m : Nat} (h : am_bt k m = true ∧ rf_mem w m 1 &&& (rf_usa w k m ^^^ (-1)) = 0) : rf_usa w k m ||| (nI 1 <<< (nI m &&& 31)) = rf_usa w k (m + 1) := by rw [rf_usa, if_pos h]
theorem rf_usa_f {w : rf_W} {k : Int32} {m : Nat} (h : ¬ (am_bt k m = true ∧ rf_mem w m 1 &&& (rf_usa w k m ^^^ (-1)) = 0)) : rf_usa w k m ||| nI 0 = rf_usa w k (m + 1) := by rw [rf_usa, if_neg h]
def rf_bdn (w : rf_W) : Nat → Int32 → Int32
  | 0, b => b
  | o + 1, b => rf_bdn w o (b ||| (if am_bt b o = true then rf_mem w o 1 else nI 0))
def rf_bears (w : rf_W) (m : Nat) : Int32 := rf_bdn w m (rf_mem w m 1)
def rf_ball (w : rf_W) (set : Int32) : Nat → Int32
  | 0 => set
  | m + 1 => rf_ball w set m ||| (if am_bt set m = true then rf_bears w m else nI 0)
def rf_bearsAll (w : rf_W) (set : Int32) : Int32 := rf_ball w set (rf_M w)
def rf_rests (w : rf_W) (m : Nat) : Int32 := rf_set (fun o => decide (m < o) && am_bt (rf_bears w o) m) (rf_M w)
theorem rf_set_none {p : Nat → Bool} : ∀ {n : Nat}, (∀ k, k < n → p k = false) → rf_set p n = 0
  | 0, _ => rfl
  | n + 1, h => by
    rw [rf_set, rf_set_none (fun k hk => h k (Nat.lt_succ_of_lt hk)), if_neg (by rw [h n (Nat.lt_succ_self n)]; exact Bool.false_ne_true)]
    rfl
def rf_knowers (w : rf_W) (m : Nat) : Int32 := rf_set (fun s => am_bt (rf_known w s) m) (rf_S w)
def rf_users (w : rf_W) (m : Nat) : Int32 := rf_set (fun s => am_bt (rf_use w s) m) (rf_S w)
def rf_sideOf (w : rf_W) (side : Int32) : Int32 := rf_set (fun s => decide (rf_of w s 0 = side)) (rf_S w)
def rf_cnt (p : Nat → Bool) : Nat → Nat
  | 0 => 0
  | n + 1 => rf_cnt p n + (if p n = true then 1 else 0)
theorem rf_cnt_t {p : Nat → Bool} {n : Nat} (h : p n = true) : nI (rf_cnt p n + 1) = nI (rf_cnt p (n + 1)) := by rw [rf_cnt, if_pos h]
theorem rf_cnt_f {p : Nat → Bool} {n : Nat} (h : p n = false) : nI (rf_cnt p n + 0) = nI (rf_cnt p (n + 1)) := by rw [rf_cnt, if_neg (by rw [h]; exact Bool.false_ne_true)]
theorem rf_cnt_le (p : Nat → Bool) : ∀ n, rf_cnt p n ≤ n
  | 0 => Nat.le_refl 0
  | n + 1 => by
    rw [rf_cnt]
    have := rf_cnt_le p n
    split <;> omega
def rf_inField (w : rf_W) (m : Int32) : Nat := rf_cnt (fun k => decide (rf_fld w k 0 = m)) (rf_F w)
def rf_worth (w : rf_W) (set : Int32) : Nat → Int32
  | 0 => nI 0
  | m + 1 => rf_worth w set m + (if am_bt set m = true then rf_mem w m 0 else nI 0)
def rf_obeyed (w : rf_W) (n : Nat) : Int32 := rf_set (fun o => decide (rf_ord w o 1 &&& (rf_usable w (rf_first w (rf_nat (rf_ord w o 0)) n) ^^^ (-1)) = 0)) (rf_O w)
def rf_ordersOf (w : rf_W) (s : Int32) : Int32 := rf_set (fun o => decide (rf_ord w o 0 = s)) (rf_O w)
theorem am_ofW {l : Launch} {y : MethodName} {ws ws' : List Cond} {rm : Room} {Pc : Array Value → State → Prop} {Qc : Array Value → State → Outcome → State → Prop} {mc ms : Nat} {free : Addr → Prop} {cc : ByteArray} {maxL : Nat} {ret : Option FieldType}
    (hy : plainFor y = true) (hw : ws = Cond.code y cc maxL ret :: ws')
    (body : ∀ p e s m args below meth c s₁, BodyLoose p l y (headSpec ws rm) cc maxL ret e s m args below meth c s₁ → c.maxLocals = maxL → Pc args s →
      W p l e (headSpec ws rm).room s m args below meth c s.heap [] 0 0 (MQ below Qc args s mc ms free) (entryFrame m args maxL)) : Met l y ws rm Pc Qc mc ms free := by
  refine MetFree.of_bodySF (code := cc) (maxLocals := maxL) (ret := ret) hy ?_ ?_
  · intro args s m h hn
    obtain ⟨meth, c, h1, h2, h3, h4, h5, h6, -, -⟩ := Cond.code_spec hn (atoms_spec (ws := ws) h _ (by rw [hw]; exact List.mem_cons_self))
    exact ⟨meth, c, h1, h2, h3, h4, h5, h6⟩
  · intro p e s m args below meth c s₁ B hml hP _
    have hh0 : s₁.heap = s.heap := by rw [B.state]; rfl
    obtain ⟨t, a1, o, b1, b2, b3⟩ := body p e s m args below meth c s₁ B hml hP s₁ hh0 (Stand.of_body B)
    exact ⟨t, o, a1, b1, b2, ⟨b3.1, b3.2⟩⟩
theorem am_CM.ofJ {Y : am_M} {d mc ms : Nat} {as : List Value} {V : am_V} {r : am_R} {h : am_H} {Q : Option Value → am_R → am_H → Prop} (hn : plainFor Y.1 = true) (hlen : (lg_sl as).length ≤ Y.2.2.1)
    (body : ∀ X : am_X, am_C Y d mc ms X → am_T Y X V mc ms Q → am_G X V (0, 0) 0 (lv_args 0 as) [] r h) : am_CM Y d mc ms as V r h Q := by
  intro l hl dC dI dA adK sz
  refine am_ofW (cc := Y.2.1) (maxL := Y.2.2.1) (ret := Y.2.2.2) hn rfl ?_
  intro p e s m args below meth c s₁ B hml hv
  obtain ⟨rfl, hsz, hP, hK, hD0, hE, hstr⟩ := hv
  have hD : am_Dj (am_A V sz) V := ⟨hD0.1, fun i hi => Or.inl ⟨i, hi, rfl⟩⟩
  have hA : ∀ q, s.heap.size ≤ q → am_A V sz q := fun q hq => Or.inr (by omega)
  have hS : va_S (am_A V sz) s.heap s.heap [] := va_S.rf
  have hloc := lv_entry (as.map (am_cv V.1)) (n := Y.2.2.1) (by rw [am_slots]; exact hlen)
  rw [lg_entry_eq]
  generalize (lg_sl (as.map (am_cv V.1)) ++ List.replicate (Y.2.2.1 - (lg_sl (as.map (am_cv V.1))).length) Slot.unset).toArray = ls at hloc ⊢
  rw [am_largs] at hloc
  have hts : ∀ w ∈ am_wl Y, w.before (as.map (am_cv V.1)).toArray s = true := atoms_spec (ws := am_wl Y) B.pre
  have K := body ((p, l, e, (headSpec (am_wl Y) (am_rm d mc ms)).room), (s, m, (as.map (am_cv V.1)).toArray, below, meth, c), (am_A V sz, MQ below (am_Post dC dI dA V sz Q) (as.map (am_cv V.1)).toArray s mc ms (am_A V sz)), (dC, dI, dA), adK)
    ⟨⟨B.exec, B.bytes, hml, B.returns, B.notSynchronized, (name_of_methodNamed B.named B.method).1⟩, ⟨findClass_of_methodNamed B.named, hts, hl, hK⟩, ⟨hA, hE⟩, Nat.le_refl d, Nat.le_refl (64 * d), rfl, rfl⟩ ?_
  · exact K s.heap [] ls ⟨hP, hD, hS, hstr⟩ (by rw [hml]; exact hloc)
  · intro v r' h' hq cs pc H locs lsA hc1 hc2 hdec hw
    obtain ⟨hP1, hD1, hS1, -⟩ := hw
    have hst : ∀ t : State, t.heap = H → am_Post dC dI dA V sz Q (as.map (am_cv V.1)).toArray s (.returned (v.map (am_cv V.1))) t := fun t ht => ⟨⟨v, r', h', rfl, hq, by rw [ht]; exact hP1⟩, hS1.F ht⟩
    refine W.widen hc1 hc2 ?_
    rcases hdec with ⟨x, ty, rfl, hd, hrt, hnar⟩ | ⟨rfl, hd, hrt⟩
    · exact W.zret B.exec B.bytes (B.returns.trans hrt) hnar (fun t ht _ => hst t ht) hS1.2.2 hd B.notSynchronized
    · exact W.vret B.exec B.bytes (B.returns.trans hrt) (fun t ht _ => hst t ht) hS1.2.2 hd B.notSynchronized
def rf_max (a b : Int32) : Int32 := if a < b then b else a
def rf_min (a b : Int32) : Int32 := if a ≤ b then a else b
def rf_fmod (x y : Int32) : Int32 := if ¬ 0 ≤ x ^^^ y ∧ ¬ (x - x / y * y) = 0 then x - x / y * y + y else x - x / y * y
def rf_pc1 (x : Int32) : Int32 := x - ((x.toUInt32 >>> ((nI 1).toUInt32 &&& Int32.toUInt32 31)).toInt32 &&& 1431655765)
def rf_pc2 (x : Int32) : Int32 := (x &&& 858993459) + ((x.toUInt32 >>> ((nI 2).toUInt32 &&& Int32.toUInt32 31)).toInt32 &&& 858993459)
def rf_pc3 (x : Int32) : Int32 := (x + (x.toUInt32 >>> ((nI 4).toUInt32 &&& Int32.toUInt32 31)).toInt32) &&& 252645135
def rf_pc4 (x : Int32) : Int32 := x + (x.toUInt32 >>> ((nI 8).toUInt32 &&& Int32.toUInt32 31)).toInt32
def rf_pc5 (x : Int32) : Int32 := x + (x.toUInt32 >>> ((nI 16).toUInt32 &&& Int32.toUInt32 31)).toInt32
/-- Integer.bitCount, as the JDK computes it -/
def rf_pc (x : Int32) : Int32 := rf_pc5 (rf_pc4 (rf_pc3 (rf_pc2 (rf_pc1 x)))) &&& nI 63
theorem rf_first_lo (w : rf_W) (s : Nat) : ∀ n, rf_bits (rf_li w s) n = rf_bits (rf_li w s) n := fun _ => rfl
variable {M : am_M} {D MC MS : Nat} {X : am_X} {V : am_V} {cs : Nat × Nat} {pc : Nat} {ls ls' : List (Nat × Value)} {st st0 : List Value} {r r2 : am_R} {h h2 : am_H}
theorem am_ldcwi {ix : Nat} {v : Int32} (C : am_C M D MC MS X) (hd : decode M.2.1 pc = .ok (.ldc_w ix, 3)) (hc : Cond.constant M.1.cls ix v ∈ am_GW) (k : am_G X V cs (pc + 3) ls (.int v :: st) r h) : am_G X V cs pc ls st r h := by
  obtain ⟨⟨p, l, e, R⟩, ⟨s, m, args, below, meth, c⟩, ⟨A, Z⟩, ⟨dC, dI, dA⟩, adK⟩ := X
  obtain ⟨⟨hx, hb, hml, hrt, hlk, hnm⟩, ⟨hown, hts, htr, hK⟩, ⟨hA, hE⟩, hDf, hDl, hMC, hMS⟩ := C
  intro H locs lsA hw hl
  exact lv_ldcw hx hb hown (hts _ (List.mem_cons_of_mem _ hc)) hd (k H locs lsA hw hl)
theorem am_iushr {x y : Int32} (C : am_C M D MC MS X) (hd : decode M.2.1 pc = .ok (.iushr, 1)) (k : am_G X V cs (pc + 1) ls (.int (x.toUInt32 >>> (y.toUInt32 &&& Int32.toUInt32 31)).toInt32 :: st) r h) : am_G X V cs pc ls (.int y :: .int x :: st) r h := by
  obtain ⟨⟨p, l, e, R⟩, ⟨s, m, args, below, meth, c⟩, ⟨A, Z⟩, ⟨dC, dI, dA⟩, adK⟩ := X
  obtain ⟨⟨hx, hb, hml, hrt, hlk, hnm⟩, ⟨hown, hts, htr, hK⟩, ⟨hA, hE⟩, hDf, hDl, hMC, hMS⟩ := C
  intro H locs lsA hw hl
  exact lv_iushr hx hb hd rfl (k H locs lsA hw hl)
end SPEC2
